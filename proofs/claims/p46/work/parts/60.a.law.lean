noncomputable section
/-! THE LAW COMES TO ITS 1 -/
def JL (s : mG) : Prop := IC s ∧ IM s ∧ s.1 0 2 = s.1 88 4 ∧ PB (s.1 88 4)
theorem IM_rows {s s' : mG} (h : ∀ j, 88 ≤ j → s'.1 j = s.1 j) (hI : IM s) : IM s' := by
  unfold IM
  rw [h 88 (by decide), h 89 (by decide), h 90 (by decide), h 91 (by decide)]
  exact hI
theorem IC_rows {s s' : mG} (h : ∀ j, j < 88 → s'.1 j = s.1 j) (hI : IC s) : IC s' := by
  unfold IC
  rw [h 2 (by decide)]
  exact hI
theorem JC {b : Bool} {s s' : mG} (h : JL s) (k : RC b s s') (e : KV 0 2 (s.1 0 2) s') : JL s' := by
  have e4 : s'.1 88 4 = s.1 88 4 := by rw [k.2.1 88 (by decide)]
  exact ⟨k.1, IM_rows k.2.1 h.2.1, (show s'.1 0 2 = s.1 0 2 from e).trans (h.2.2.1.trans e4.symm), by rw [e4]; exact h.2.2.2⟩
theorem JM {s s' : mG} (h : JL s) (k : RF s s') (e : KV 88 4 (s.1 88 4) s') : JL s' := by
  have e4 : s'.1 88 4 = s.1 88 4 := e
  exact ⟨IC_rows k.2 h.1, k.1, (congrFun (k.2 0 (by decide)) 2).trans (h.2.2.1.trans e4.symm), by rw [e4]; exact h.2.2.2⟩
def LPo (x3 : Int32) : (Int32 × mG) ⊕ (Int32 × mG) → Prop := lpost (fun v => JL v.2 ∧ 0 ≤ v.1.toInt ∧ v.1.toInt ≤ 4000) (fun v => mUp v.1) (mUp x3) (fun τ => τ.1 = 1)
theorem law_next {LN : Nat} {Lx : Nat → Int32} {x3 : Int32} {s : mG} (hx0 : 0 ≤ x3.toInt) (hx : x3.toInt + 6 ≤ (LN : Int)) (hL : LN ≤ 3072) (hJ : JL s) : ok (F_law_1586 LN Lx x3 s) (LPo x3) := by
  have e : (x3 + ci 6).toInt = x3.toInt + 6 := r_add rfl (by decide) (by omega) (by omega)
  have b : 0 ≤ (x3 + ci 6).toInt ∧ (x3 + ci 6).toInt ≤ 4000 := by rw [e]; omega
  have m : mUp (x3 + ci 6) < mUp x3 := by unfold mUp; rw [e]; omega
  unfold F_law_1586
  exact ok_some (lp_inl ⟨hJ, b.1, b.2⟩ m)
/-! the start -/
def s0_l : List Nat := [2, 112, 115, 116, 117, 118, 1049, 119, 120, 121, 122, 123, 124, 125, 126, 127, 128, 129, 130]
theorem s0_c : s0_l.all (fun k => decide (s0.1 89 k = 0)) = true := by decide +kernel
theorem s0_at {k : Nat} (h : k ∈ s0_l) : s0.1 89 k = 0 := of_decide_eq_true (List.all_eq_true.mp s0_c k h)
theorem s0_88 : s0.1 88 3 = 0 ∧ s0.1 88 4 = 0 ∧ s0.1 88 15 = 0 ∧ s0.1 55 9 = 0 := by decide +kernel
theorem s0_ic : s0.1 2 0 = ci 12 ∧ s0.1 2 3 = 0 := by decide +kernel
theorem s0_02 : s0.1 0 2 = 0 := by decide +kernel
theorem JL_s0 : JL s0 := by
  obtain ⟨e3, e4, e15, e9⟩ := s0_88
  have e02 := s0_02
  have z := t_zero
  have f : ∀ k, k < 12 → s0.1 89 (119 + k) = 0 := by
    intro k hk
    have hm : 119 + k ∈ s0_l := by
      have : k = 0 ∨ k = 1 ∨ k = 2 ∨ k = 3 ∨ k = 4 ∨ k = 5 ∨ k = 6 ∨ k = 7 ∨ k = 8 ∨ k = 9 ∨ k = 10 ∨ k = 11 := by omega
      rcases this with e | e | e | e | e | e | e | e | e | e | e | e <;> subst e <;> decide
    exact s0_at hm
  have c112 : s0.1 89 112 = 0 := s0_at (by decide)
  have c115 : s0.1 89 115 = 0 := s0_at (by decide)
  have c116 : s0.1 89 116 = 0 := s0_at (by decide)
  have c117 : s0.1 89 117 = 0 := s0_at (by decide)
  have c118 : s0.1 89 118 = 0 := s0_at (by decide)
  have c1049 : s0.1 89 1049 = 0 := s0_at (by decide)
  have c2 : s0.1 89 2 = 0 := s0_at (by decide)
  refine ⟨⟨s0_ic.1, ?_⟩, ⟨⟨?_, ?_, ?_, ?_, ?_, ?_, fun k hk => ?_, fun k hk hl => ?_, fun k hk hl => ?_, fun k hk hl => ?_, fun k hk hl => ?_⟩, ⟨?_, fun a ha hl => ?_, fun a b ha hb hl => ?_⟩, fun h => absurd e4 h, ?_, fun j hj hl => ?_, ?_⟩, by rw [e02, e4], Or.inl e4⟩
  · rw [s0_ic.2, Int32.le_iff_toInt_le, z]; decide
  · rw [c112, z]; omega
  · rw [c115, z]; omega
  · rw [c116, z]; omega
  · rw [c117, z]; omega
  · rw [c118, z]; omega
  · rw [c1049, z]; omega
  · rw [f k hk, z]; omega
  · rw [c115, z] at hl; omega
  · rw [c118, z] at hl; omega
  · rw [c1049, z] at hl; omega
  · rw [c117, z] at hl; omega
  · rw [c2, z]; omega
  · rw [c112, z] at hl; omega
  · rw [c112, z] at hl; omega
  · rw [e3, z]; omega
  · rw [e3, z] at hl; omega
  · rw [e15, z]; omega

theorem T_law_232 {LN : Nat} {Lx : Nat → Int32} {x3 : Int32} {s : mG} (hx0 : 0 ≤ x3.toInt) (hx : x3.toInt + 6 ≤ (LN : Int)) (hL : LN ≤ 3072) (hJ : JL s) : ok (F_law_232 LN Lx x3 s) (LPo x3) := by
  unfold F_law_232
  refine ok_nn (ix_ok (r_add (rfl : x3.toInt = _) (by decide : (ci 1).toInt = 1) (by omega) (by omega)) (by omega) (by omega)) ?_
  refine ok_b2 (P := fun τ => JL τ.2) (ok_k (T_X11_state hJ.1) (K_X11_state kv0) (fun τ q k => JC hJ q k)) (fun _ s_1 (hJ_2 : JL s_1) => ?_)
  refine ok_nn (ix_ok (r_add (rfl : x3.toInt = _) (by decide : (ci 1).toInt = 1) (by omega) (by omega)) (by omega) (by omega)) ?_
  refine ok_b2 (P := fun τ => JL τ.2) (ok_k (T_X12_state hJ_2.2.1) (K_X12_state kv0) (fun τ q k => JM hJ_2 (RF_RW q.2.1) k)) (fun _ s_3 (hJ_4 : JL s_3) => ?_)
  exact law_next hx0 hx hL hJ_4
theorem T_law_255 {LN : Nat} {Lx : Nat → Int32} {x3 : Int32} {s : mG} (hx0 : 0 ≤ x3.toInt) (hx : x3.toInt + 6 ≤ (LN : Int)) (hL : LN ≤ 3072) (hJ : JL s) : ok (F_law_255 LN Lx x3 s) (LPo x3) := by
  unfold F_law_255
  refine ok_nn (ix_ok (r_add (rfl : x3.toInt = _) (by decide : (ci 1).toInt = 1) (by omega) (by omega)) (by omega) (by omega)) ?_
  refine ok_nn (ix_ok (r_add (rfl : x3.toInt = _) (by decide : (ci 2).toInt = 2) (by omega) (by omega)) (by omega) (by omega)) ?_
  refine ok_b2 (P := fun τ => JL τ.2) (ok_k (T_X11_guest hJ.1) (K_X11_guest kv0) (fun τ q k => JC hJ q k)) (fun _ s_1 (hJ_2 : JL s_1) => ?_)
  refine ok_nn (ix_ok (r_add (rfl : x3.toInt = _) (by decide : (ci 1).toInt = 1) (by omega) (by omega)) (by omega) (by omega)) ?_
  refine ok_nn (ix_ok (r_add (rfl : x3.toInt = _) (by decide : (ci 2).toInt = 2) (by omega) (by omega)) (by omega) (by omega)) ?_
  refine ok_b2 (P := fun τ => JL τ.2) (ok_k (T_X12_guest hJ_2.2.1) (K_X12_guest kv0) (fun τ q k => JM hJ_2 (RF_RW q.2) k)) (fun _ s_3 (hJ_4 : JL s_3) => ?_)
  exact law_next hx0 hx hL hJ_4
theorem T_law_288 {LN : Nat} {Lx : Nat → Int32} {x3 : Int32} {s : mG} (hx0 : 0 ≤ x3.toInt) (hx : x3.toInt + 6 ≤ (LN : Int)) (hL : LN ≤ 3072) (hJ : JL s) : ok (F_law_288 LN Lx x3 s) (LPo x3) := by
  unfold F_law_288
  refine ok_nn (ix_ok (r_add (rfl : x3.toInt = _) (by decide : (ci 1).toInt = 1) (by omega) (by omega)) (by omega) (by omega)) ?_
  refine ok_nn (ix_ok (r_add (rfl : x3.toInt = _) (by decide : (ci 2).toInt = 2) (by omega) (by omega)) (by omega) (by omega)) ?_
  refine ok_nn (ix_ok (r_add (rfl : x3.toInt = _) (by decide : (ci 3).toInt = 3) (by omega) (by omega)) (by omega) (by omega)) ?_
  refine ok_b2 (P := fun τ => JL τ.2) (ok_k (T_X11_set hJ.1) (K_X11_set kv0) (fun τ q k => JC hJ q.2 k)) (fun _ s_1 (hJ_2 : JL s_1) => ?_)
  refine ok_nn (ix_ok (r_add (rfl : x3.toInt = _) (by decide : (ci 1).toInt = 1) (by omega) (by omega)) (by omega) (by omega)) ?_
  refine ok_nn (ix_ok (r_add (rfl : x3.toInt = _) (by decide : (ci 2).toInt = 2) (by omega) (by omega)) (by omega) (by omega)) ?_
  refine ok_nn (ix_ok (r_add (rfl : x3.toInt = _) (by decide : (ci 3).toInt = 3) (by omega) (by omega)) (by omega) (by omega)) ?_
  refine ok_b2 (P := fun τ => JL τ.2) (ok_k (T_X12_set hJ_2.2.1) (K_X12_set kv0) (fun τ q k => JM hJ_2 (RF_RW q.2.1) k)) (fun _ s_3 (hJ_4 : JL s_3) => ?_)
  exact law_next hx0 hx hL hJ_4
theorem T_law_331 {LN : Nat} {Lx : Nat → Int32} {x3 : Int32} {s : mG} (hx0 : 0 ≤ x3.toInt) (hx : x3.toInt + 6 ≤ (LN : Int)) (hL : LN ≤ 3072) (hJ : JL s) : ok (F_law_331 LN Lx x3 s) (LPo x3) := by
  unfold F_law_331
  refine ok_nn (ix_ok (r_add (rfl : x3.toInt = _) (by decide : (ci 1).toInt = 1) (by omega) (by omega)) (by omega) (by omega)) ?_
  refine ok_nn (ix_ok (r_add (rfl : x3.toInt = _) (by decide : (ci 2).toInt = 2) (by omega) (by omega)) (by omega) (by omega)) ?_
  refine ok_b2 (P := fun τ => JL τ.2) (ok_k (T_X11_hang hJ.1) (K_X11_hang kv0) (fun τ q k => JC hJ q.2 k)) (fun _ s_1 (hJ_2 : JL s_1) => ?_)
  refine ok_nn (ix_ok (r_add (rfl : x3.toInt = _) (by decide : (ci 1).toInt = 1) (by omega) (by omega)) (by omega) (by omega)) ?_
  refine ok_nn (ix_ok (r_add (rfl : x3.toInt = _) (by decide : (ci 2).toInt = 2) (by omega) (by omega)) (by omega) (by omega)) ?_
  refine ok_b2 (P := fun τ => JL τ.2) (ok_k (T_X12_hang hJ_2.2.1) (K_X12_hang kv0) (fun τ q k => JM hJ_2 (RF_RW q.2.1) k)) (fun _ s_3 (hJ_4 : JL s_3) => ?_)
  exact law_next hx0 hx hL hJ_4
theorem T_law_364 {LN : Nat} {Lx : Nat → Int32} {x3 : Int32} {s : mG} (hx0 : 0 ≤ x3.toInt) (hx : x3.toInt + 6 ≤ (LN : Int)) (hL : LN ≤ 3072) (hJ : JL s) : ok (F_law_364 LN Lx x3 s) (LPo x3) := by
  unfold F_law_364
  refine ok_nn (ix_ok (r_add (rfl : x3.toInt = _) (by decide : (ci 1).toInt = 1) (by omega) (by omega)) (by omega) (by omega)) ?_
  refine ok_nn (ix_ok (r_add (rfl : x3.toInt = _) (by decide : (ci 2).toInt = 2) (by omega) (by omega)) (by omega) (by omega)) ?_
  refine ok_nn (ix_ok (r_add (rfl : x3.toInt = _) (by decide : (ci 3).toInt = 3) (by omega) (by omega)) (by omega) (by omega)) ?_
  refine ok_b2 (P := fun τ => JL τ.2) (ok_k (T_X11_looks hJ.1) (K_X11_looks kv0) (fun τ q k => JC hJ q.2 k)) (fun _ s_1 (hJ_2 : JL s_1) => ?_)
  refine ok_nn (ix_ok (r_add (rfl : x3.toInt = _) (by decide : (ci 1).toInt = 1) (by omega) (by omega)) (by omega) (by omega)) ?_
  refine ok_nn (ix_ok (r_add (rfl : x3.toInt = _) (by decide : (ci 2).toInt = 2) (by omega) (by omega)) (by omega) (by omega)) ?_
  refine ok_nn (ix_ok (r_add (rfl : x3.toInt = _) (by decide : (ci 3).toInt = 3) (by omega) (by omega)) (by omega) (by omega)) ?_
  refine ok_b2 (P := fun τ => JL τ.2) (ok_k (T_X12_looks hJ_2.2.1) (K_X12_looks kv0) (fun τ q k => JM hJ_2 (RF_RW q.2.1) k)) (fun _ s_3 (hJ_4 : JL s_3) => ?_)
  exact law_next hx0 hx hL hJ_4
theorem T_law_407 {LN : Nat} {Lx : Nat → Int32} {x3 : Int32} {s : mG} (hx0 : 0 ≤ x3.toInt) (hx : x3.toInt + 6 ≤ (LN : Int)) (hL : LN ≤ 3072) (hJ : JL s) : ok (F_law_407 LN Lx x3 s) (LPo x3) := by
  unfold F_law_407
  refine ok_nn (ix_ok (r_add (rfl : x3.toInt = _) (by decide : (ci 1).toInt = 1) (by omega) (by omega)) (by omega) (by omega)) ?_
  refine ok_b2 (P := fun τ => JL τ.2) (ok_k (T_X11_hours hJ.1) (K_X11_hours kv0) (fun τ q k => JC hJ q k)) (fun _ s_1 (hJ_2 : JL s_1) => ?_)
  refine ok_nn (ix_ok (r_add (rfl : x3.toInt = _) (by decide : (ci 1).toInt = 1) (by omega) (by omega)) (by omega) (by omega)) ?_
  refine ok_b2 (P := fun τ => JL τ.2) (ok_k (T_X12_hours hJ_2.2.1) (K_X12_hours kv0) (fun τ q k => JM hJ_2 (RF_RW q.2.1) k)) (fun _ s_3 (hJ_4 : JL s_3) => ?_)
  exact law_next hx0 hx hL hJ_4
theorem T_law_430 {LN : Nat} {Lx : Nat → Int32} {x3 : Int32} {s : mG} (hx0 : 0 ≤ x3.toInt) (hx : x3.toInt + 6 ≤ (LN : Int)) (hL : LN ≤ 3072) (hJ : JL s) : ok (F_law_430 LN Lx x3 s) (LPo x3) := by
  unfold F_law_430
  refine ok_nn (ix_ok (r_add (rfl : x3.toInt = _) (by decide : (ci 1).toInt = 1) (by omega) (by omega)) (by omega) (by omega)) ?_
  refine ok_nn (ix_ok (r_add (rfl : x3.toInt = _) (by decide : (ci 2).toInt = 2) (by omega) (by omega)) (by omega) (by omega)) ?_
  refine ok_nn (ix_ok (r_add (rfl : x3.toInt = _) (by decide : (ci 3).toInt = 3) (by omega) (by omega)) (by omega) (by omega)) ?_
  refine ok_nn (ix_ok (r_add (rfl : x3.toInt = _) (by decide : (ci 4).toInt = 4) (by omega) (by omega)) (by omega) (by omega)) ?_
  refine ok_nn (ix_ok (r_add (rfl : x3.toInt = _) (by decide : (ci 5).toInt = 5) (by omega) (by omega)) (by omega) (by omega)) ?_
  refine ok_b2 (P := fun τ => JL τ.2) (ok_k (T_X11_feed hJ.1) (K_X11_feed kv0) (fun τ q k => JC hJ q.1 k)) (fun _ s_1 (hJ_2 : JL s_1) => ?_)
  refine ok_nn (ix_ok (r_add (rfl : x3.toInt = _) (by decide : (ci 1).toInt = 1) (by omega) (by omega)) (by omega) (by omega)) ?_
  refine ok_nn (ix_ok (r_add (rfl : x3.toInt = _) (by decide : (ci 2).toInt = 2) (by omega) (by omega)) (by omega) (by omega)) ?_
  refine ok_nn (ix_ok (r_add (rfl : x3.toInt = _) (by decide : (ci 3).toInt = 3) (by omega) (by omega)) (by omega) (by omega)) ?_
  refine ok_nn (ix_ok (r_add (rfl : x3.toInt = _) (by decide : (ci 4).toInt = 4) (by omega) (by omega)) (by omega) (by omega)) ?_
  refine ok_nn (ix_ok (r_add (rfl : x3.toInt = _) (by decide : (ci 5).toInt = 5) (by omega) (by omega)) (by omega) (by omega)) ?_
  refine ok_b2 (P := fun τ => JL τ.2) (ok_k (T_X12_feed hJ_2.2.1) (K_X12_feed kv0) (fun τ q k => JM hJ_2 q.1 k)) (fun _ s_3 (hJ_4 : JL s_3) => ?_)
  exact law_next hx0 hx hL hJ_4
theorem T_law_493 {LN : Nat} {Lx : Nat → Int32} {x3 : Int32} {s : mG} (hx0 : 0 ≤ x3.toInt) (hx : x3.toInt + 6 ≤ (LN : Int)) (hL : LN ≤ 3072) (hJ : JL s) : ok (F_law_493 LN Lx x3 s) (LPo x3) := by
  unfold F_law_493
  refine ok_nn (ix_ok (r_add (rfl : x3.toInt = _) (by decide : (ci 1).toInt = 1) (by omega) (by omega)) (by omega) (by omega)) ?_
  refine ok_b2 (P := fun τ => JL τ.2) (ok_k (T_X11_end hJ.1) (K_X11_end kv0) (fun τ q k => JC hJ q.1 k)) (fun _ s_1 (hJ_2 : JL s_1) => ?_)
  refine ok_nn (ix_ok (r_add (rfl : x3.toInt = _) (by decide : (ci 1).toInt = 1) (by omega) (by omega)) (by omega) (by omega)) ?_
  refine ok_b2 (P := fun τ => JL τ.2) (ok_k (T_X12_end hJ_2.2.1) (K_X12_end kv0) (fun τ q k => JM hJ_2 q.1 k)) (fun _ s_3 (hJ_4 : JL s_3) => ?_)
  exact law_next hx0 hx hL hJ_4
theorem T_law_516 {LN : Nat} {Lx : Nat → Int32} {x3 : Int32} {s : mG} (hx0 : 0 ≤ x3.toInt) (hx : x3.toInt + 6 ≤ (LN : Int)) (hL : LN ≤ 3072) (hJ : JL s) : ok (F_law_516 LN Lx x3 s) (LPo x3) := by
  unfold F_law_516
  refine ok_nn (ix_ok (r_add (rfl : x3.toInt = _) (by decide : (ci 1).toInt = 1) (by omega) (by omega)) (by omega) (by omega)) ?_
  refine ok_b2 (P := fun τ => JL τ.2) (ok_k (T_X11_text hJ.1) (K_X11_text kv0) (fun τ q k => JC hJ q.1 k)) (fun _ s_1 (hJ_2 : JL s_1) => ?_)
  refine ok_nn (ix_ok (r_add (rfl : x3.toInt = _) (by decide : (ci 1).toInt = 1) (by omega) (by omega)) (by omega) (by omega)) ?_
  refine ok_b2 (P := fun τ => JL τ.2) (ok_k (T_X12_text hJ_2.2.1) (K_X12_text kv0) (fun τ q k => JM hJ_2 q.1 k)) (fun _ s_3 (hJ_4 : JL s_3) => ?_)
  exact law_next hx0 hx hL hJ_4
theorem T_law_539 {LN : Nat} {Lx : Nat → Int32} {x3 : Int32} {s : mG} (hx0 : 0 ≤ x3.toInt) (hx : x3.toInt + 6 ≤ (LN : Int)) (hL : LN ≤ 3072) (hJ : JL s) : ok (F_law_539 LN Lx x3 s) (LPo x3) := by
  unfold F_law_539
  refine ok_nn (ix_ok (r_add (rfl : x3.toInt = _) (by decide : (ci 1).toInt = 1) (by omega) (by omega)) (by omega) (by omega)) ?_
  refine ok_b1 (P := PT) (ok_mono (T_X11_fault hJ.1) (fun _ _ => trivial)) (fun _ _ => ?_)
  refine ok_nn (ix_ok (r_add (rfl : x3.toInt = _) (by decide : (ci 1).toInt = 1) (by omega) (by omega)) (by omega) (by omega)) ?_
  refine ok_b1 (P := PT) (ok_mono (T_X12_fault hJ.2.1) (fun _ _ => trivial)) (fun _ _ => ?_)
  exact law_next hx0 hx hL hJ
theorem T_law_562 {LN : Nat} {Lx : Nat → Int32} {x3 : Int32} {s : mG} (hx0 : 0 ≤ x3.toInt) (hx : x3.toInt + 6 ≤ (LN : Int)) (hL : LN ≤ 3072) (hJ : JL s) : ok (F_law_562 LN Lx x3 s) (LPo x3) := by
  unfold F_law_562
  refine ok_nn (ix_ok (r_add (rfl : x3.toInt = _) (by decide : (ci 1).toInt = 1) (by omega) (by omega)) (by omega) (by omega)) ?_
  refine ok_nn (ix_ok (r_add (rfl : x3.toInt = _) (by decide : (ci 2).toInt = 2) (by omega) (by omega)) (by omega) (by omega)) ?_
  refine ok_b2 (P := fun τ => JL τ.2) (ok_k (T_X11_of hJ.1) (K_X11_of kv0) (fun τ q k => JC hJ q k)) (fun _ s_1 (hJ_2 : JL s_1) => ?_)
  refine ok_nn (ix_ok (r_add (rfl : x3.toInt = _) (by decide : (ci 1).toInt = 1) (by omega) (by omega)) (by omega) (by omega)) ?_
  refine ok_nn (ix_ok (r_add (rfl : x3.toInt = _) (by decide : (ci 2).toInt = 2) (by omega) (by omega)) (by omega) (by omega)) ?_
  refine ok_b2 (P := fun τ => JL τ.2) (ok_k (T_X12_of hJ_2.2.1) (K_X12_of kv0) (fun τ q k => JM hJ_2 (RF_RW (RX_RM q.2).1) k)) (fun _ s_3 (hJ_4 : JL s_3) => ?_)
  exact law_next hx0 hx hL hJ_4
theorem T_law_595 {LN : Nat} {Lx : Nat → Int32} {x3 : Int32} {s : mG} (hx0 : 0 ≤ x3.toInt) (hx : x3.toInt + 6 ≤ (LN : Int)) (hL : LN ≤ 3072) (hJ : JL s) : ok (F_law_595 LN Lx x3 s) (LPo x3) := by
  unfold F_law_595
  refine ok_nn (ix_ok (r_add (rfl : x3.toInt = _) (by decide : (ci 1).toInt = 1) (by omega) (by omega)) (by omega) (by omega)) ?_
  refine ok_b1 (P := PT) (ok_mono (T_X11_hook hJ.1) (fun _ _ => trivial)) (fun _ _ => ?_)
  refine ok_nn (ix_ok (r_add (rfl : x3.toInt = _) (by decide : (ci 1).toInt = 1) (by omega) (by omega)) (by omega) (by omega)) ?_
  refine ok_b1 (P := PT) (ok_mono (T_X12_hook hJ.2.1) (fun _ _ => trivial)) (fun _ _ => ?_)
  exact law_next hx0 hx hL hJ
theorem T_law_618 {LN : Nat} {Lx : Nat → Int32} {x3 : Int32} {s : mG} (hx0 : 0 ≤ x3.toInt) (hx : x3.toInt + 6 ≤ (LN : Int)) (hL : LN ≤ 3072) (hJ : JL s) : ok (F_law_618 LN Lx x3 s) (LPo x3) := by
  unfold F_law_618
  refine ok_nn (ix_ok (r_add (rfl : x3.toInt = _) (by decide : (ci 1).toInt = 1) (by omega) (by omega)) (by omega) (by omega)) ?_
  refine ok_nn (ix_ok (r_add (rfl : x3.toInt = _) (by decide : (ci 2).toInt = 2) (by omega) (by omega)) (by omega) (by omega)) ?_
  refine ok_b1 (P := PT) (ok_mono (T_X11_sign hJ.1) (fun _ _ => trivial)) (fun _ _ => ?_)
  refine ok_nn (ix_ok (r_add (rfl : x3.toInt = _) (by decide : (ci 1).toInt = 1) (by omega) (by omega)) (by omega) (by omega)) ?_
  refine ok_nn (ix_ok (r_add (rfl : x3.toInt = _) (by decide : (ci 2).toInt = 2) (by omega) (by omega)) (by omega) (by omega)) ?_
  refine ok_b1 (P := PT) (ok_mono (T_X12_sign hJ.2.1) (fun _ _ => trivial)) (fun _ _ => ?_)
  exact law_next hx0 hx hL hJ
theorem T_law_651 {LN : Nat} {Lx : Nat → Int32} {x3 : Int32} {s : mG} (hx0 : 0 ≤ x3.toInt) (hx : x3.toInt + 6 ≤ (LN : Int)) (hL : LN ≤ 3072) (hJ : JL s) : ok (F_law_651 LN Lx x3 s) (LPo x3) := by
  unfold F_law_651
  refine ok_nn (ix_ok (r_add (rfl : x3.toInt = _) (by decide : (ci 1).toInt = 1) (by omega) (by omega)) (by omega) (by omega)) ?_
  refine ok_nn (ix_ok (r_add (rfl : x3.toInt = _) (by decide : (ci 2).toInt = 2) (by omega) (by omega)) (by omega) (by omega)) ?_
  refine ok_b1 (P := PT) (ok_mono (T_X11_book hJ.1) (fun _ _ => trivial)) (fun _ _ => ?_)
  refine ok_nn (ix_ok (r_add (rfl : x3.toInt = _) (by decide : (ci 1).toInt = 1) (by omega) (by omega)) (by omega) (by omega)) ?_
  refine ok_nn (ix_ok (r_add (rfl : x3.toInt = _) (by decide : (ci 2).toInt = 2) (by omega) (by omega)) (by omega) (by omega)) ?_
  refine ok_b1 (P := PT) (ok_mono (T_X12_book hJ.2.1) (fun _ _ => trivial)) (fun _ _ => ?_)
  exact law_next hx0 hx hL hJ
theorem T_law_684 {LN : Nat} {Lx : Nat → Int32} {x3 : Int32} {s : mG} (hx0 : 0 ≤ x3.toInt) (hx : x3.toInt + 6 ≤ (LN : Int)) (hL : LN ≤ 3072) (hJ : JL s) : ok (F_law_684 LN Lx x3 s) (LPo x3) := by
  unfold F_law_684
  refine ok_nn (ix_ok (r_add (rfl : x3.toInt = _) (by decide : (ci 1).toInt = 1) (by omega) (by omega)) (by omega) (by omega)) ?_
  refine ok_b2 (P := fun τ => JL τ.2) (ok_k (T_X11_next hJ.1) (K_X11_next kv0) (fun τ q k => JC hJ q k)) (fun _ s_1 (hJ_2 : JL s_1) => ?_)
  refine ok_nn (ix_ok (r_add (rfl : x3.toInt = _) (by decide : (ci 1).toInt = 1) (by omega) (by omega)) (by omega) (by omega)) ?_
  refine ok_b2 (P := fun τ => JL τ.2) (ok_k (T_X12_next hJ_2.2.1) (K_X12_next kv0) (fun τ q k => JM hJ_2 (RF_RW (RX_RM q.2).1) k)) (fun _ s_3 (hJ_4 : JL s_3) => ?_)
  exact law_next hx0 hx hL hJ_4
theorem T_law_707 {LN : Nat} {Lx : Nat → Int32} {x3 : Int32} {s : mG} (hx0 : 0 ≤ x3.toInt) (hx : x3.toInt + 6 ≤ (LN : Int)) (hL : LN ≤ 3072) (hJ : JL s) : ok (F_law_707 LN Lx x3 s) (LPo x3) := by
  unfold F_law_707
  refine ok_nn (ix_ok (r_add (rfl : x3.toInt = _) (by decide : (ci 1).toInt = 1) (by omega) (by omega)) (by omega) (by omega)) ?_
  refine ok_nn (ix_ok (r_add (rfl : x3.toInt = _) (by decide : (ci 2).toInt = 2) (by omega) (by omega)) (by omega) (by omega)) ?_
  refine ok_nn (ix_ok (r_add (rfl : x3.toInt = _) (by decide : (ci 3).toInt = 3) (by omega) (by omega)) (by omega) (by omega)) ?_
  refine ok_b2 (P := fun τ => JL τ.2) (ok_k (T_X11_say hJ.1) (K_X11_say kv0) (fun τ q k => JC hJ q k)) (fun _ s_1 (hJ_2 : JL s_1) => ?_)
  refine ok_nn (ix_ok (r_add (rfl : x3.toInt = _) (by decide : (ci 1).toInt = 1) (by omega) (by omega)) (by omega) (by omega)) ?_
  refine ok_nn (ix_ok (r_add (rfl : x3.toInt = _) (by decide : (ci 2).toInt = 2) (by omega) (by omega)) (by omega) (by omega)) ?_
  refine ok_nn (ix_ok (r_add (rfl : x3.toInt = _) (by decide : (ci 3).toInt = 3) (by omega) (by omega)) (by omega) (by omega)) ?_
  refine ok_b2 (P := fun τ => JL τ.2) (ok_k (T_X12_say hJ_2.2.1) (K_X12_say kv0) (fun τ q k => JM hJ_2 (RF_RW (RX_RM q.2).1) k)) (fun _ s_3 (hJ_4 : JL s_3) => ?_)
  exact law_next hx0 hx hL hJ_4
theorem T_law_750 {LN : Nat} {Lx : Nat → Int32} {x3 : Int32} {s : mG} (hx0 : 0 ≤ x3.toInt) (hx : x3.toInt + 6 ≤ (LN : Int)) (hL : LN ≤ 3072) (hJ : JL s) : ok (F_law_750 LN Lx x3 s) (LPo x3) := by
  unfold F_law_750
  refine ok_nn (ix_ok (r_add (rfl : x3.toInt = _) (by decide : (ci 1).toInt = 1) (by omega) (by omega)) (by omega) (by omega)) ?_
  refine ok_b2 (P := fun τ => JL τ.2) (ok_k (T_X11_many hJ.1) (K_X11_many kv0) (fun τ q k => JC hJ q k)) (fun _ s_1 (hJ_2 : JL s_1) => ?_)
  refine ok_nn (ix_ok (r_add (rfl : x3.toInt = _) (by decide : (ci 1).toInt = 1) (by omega) (by omega)) (by omega) (by omega)) ?_
  refine ok_b2 (P := fun τ => JL τ.2) (ok_k (T_X12_many hJ_2.2.1) (K_X12_many kv0) (fun τ q k => JM hJ_2 (RF_RW (RX_RM q.2).1) k)) (fun _ s_3 (hJ_4 : JL s_3) => ?_)
  exact law_next hx0 hx hL hJ_4
theorem T_law_773 {LN : Nat} {Lx : Nat → Int32} {x3 : Int32} {s : mG} (hx0 : 0 ≤ x3.toInt) (hx : x3.toInt + 6 ≤ (LN : Int)) (hL : LN ≤ 3072) (hJ : JL s) : ok (F_law_773 LN Lx x3 s) (LPo x3) := by
  unfold F_law_773
  refine ok_nn (ix_ok (r_add (rfl : x3.toInt = _) (by decide : (ci 1).toInt = 1) (by omega) (by omega)) (by omega) (by omega)) ?_
  refine ok_nn (ix_ok (r_add (rfl : x3.toInt = _) (by decide : (ci 2).toInt = 2) (by omega) (by omega)) (by omega) (by omega)) ?_
  refine ok_b2 (P := fun τ => JL τ.2) (ok_k (T_X11_span hJ.1) (K_X11_span kv0) (fun τ q k => JC hJ q k)) (fun _ s_1 (hJ_2 : JL s_1) => ?_)
  refine ok_nn (ix_ok (r_add (rfl : x3.toInt = _) (by decide : (ci 1).toInt = 1) (by omega) (by omega)) (by omega) (by omega)) ?_
  refine ok_nn (ix_ok (r_add (rfl : x3.toInt = _) (by decide : (ci 2).toInt = 2) (by omega) (by omega)) (by omega) (by omega)) ?_
  refine ok_b2 (P := fun τ => JL τ.2) (ok_k (T_X12_span hJ_2.2.1) (K_X12_span kv0) (fun τ q k => JM hJ_2 (RF_RW (RX_RM q.2).1) k)) (fun _ s_3 (hJ_4 : JL s_3) => ?_)
  exact law_next hx0 hx hL hJ_4
theorem T_law_806 {LN : Nat} {Lx : Nat → Int32} {x3 : Int32} {s : mG} (hx0 : 0 ≤ x3.toInt) (hx : x3.toInt + 6 ≤ (LN : Int)) (hL : LN ≤ 3072) (hJ : JL s) : ok (F_law_806 LN Lx x3 s) (LPo x3) := by
  unfold F_law_806
  refine ok_nn (ix_ok (r_add (rfl : x3.toInt = _) (by decide : (ci 1).toInt = 1) (by omega) (by omega)) (by omega) (by omega)) ?_
  refine ok_nn (ix_ok (r_add (rfl : x3.toInt = _) (by decide : (ci 2).toInt = 2) (by omega) (by omega)) (by omega) (by omega)) ?_
  refine ok_b2 (P := fun τ => JL τ.2) (ok_k (T_X11_counted hJ.1) (K_X11_counted kv0) (fun τ q k => JC hJ q k)) (fun _ s_1 (hJ_2 : JL s_1) => ?_)
  refine ok_nn (ix_ok (r_add (rfl : x3.toInt = _) (by decide : (ci 1).toInt = 1) (by omega) (by omega)) (by omega) (by omega)) ?_
  refine ok_nn (ix_ok (r_add (rfl : x3.toInt = _) (by decide : (ci 2).toInt = 2) (by omega) (by omega)) (by omega) (by omega)) ?_
  refine ok_b2 (P := fun τ => JL τ.2) (ok_k (T_X12_counted hJ_2.2.1) (K_X12_counted kv0) (fun τ q k => JM hJ_2 (RF_RW (RX_RM q.2).1) k)) (fun _ s_3 (hJ_4 : JL s_3) => ?_)
  exact law_next hx0 hx hL hJ_4
theorem T_law_839 {LN : Nat} {Lx : Nat → Int32} {x3 : Int32} {s : mG} (hx0 : 0 ≤ x3.toInt) (hx : x3.toInt + 6 ≤ (LN : Int)) (hL : LN ≤ 3072) (hJ : JL s) : ok (F_law_839 LN Lx x3 s) (LPo x3) := by
  unfold F_law_839
  refine ok_nn (ix_ok (r_add (rfl : x3.toInt = _) (by decide : (ci 1).toInt = 1) (by omega) (by omega)) (by omega) (by omega)) ?_
  refine ok_nn (ix_ok (r_add (rfl : x3.toInt = _) (by decide : (ci 2).toInt = 2) (by omega) (by omega)) (by omega) (by omega)) ?_
  refine ok_b2 (P := fun τ => JL τ.2) (ok_k (T_X11_visit hJ.1) (K_X11_visit kv0) (fun τ q k => JC hJ q k)) (fun _ s_1 (hJ_2 : JL s_1) => ?_)
  refine ok_nn (ix_ok (r_add (rfl : x3.toInt = _) (by decide : (ci 1).toInt = 1) (by omega) (by omega)) (by omega) (by omega)) ?_
  refine ok_nn (ix_ok (r_add (rfl : x3.toInt = _) (by decide : (ci 2).toInt = 2) (by omega) (by omega)) (by omega) (by omega)) ?_
  refine ok_b2 (P := fun τ => JL τ.2) (ok_k (T_X12_visit hJ_2.2.1) (K_X12_visit kv0) (fun τ q k => JM hJ_2 (RF_RW (RX_RM q.2).1) k)) (fun _ s_3 (hJ_4 : JL s_3) => ?_)
  exact law_next hx0 hx hL hJ_4
theorem T_law_872 {LN : Nat} {Lx : Nat → Int32} {x3 : Int32} {s : mG} (hx0 : 0 ≤ x3.toInt) (hx : x3.toInt + 6 ≤ (LN : Int)) (hL : LN ≤ 3072) (hJ : JL s) : ok (F_law_872 LN Lx x3 s) (LPo x3) := by
  unfold F_law_872
  refine ok_nn (ix_ok (r_add (rfl : x3.toInt = _) (by decide : (ci 1).toInt = 1) (by omega) (by omega)) (by omega) (by omega)) ?_
  refine ok_b2 (P := fun τ => JL τ.2) (ok_k (T_X11_empty hJ.1) (K_X11_empty kv0) (fun τ q k => JC hJ q k)) (fun _ s_1 (hJ_2 : JL s_1) => ?_)
  refine ok_nn (ix_ok (r_add (rfl : x3.toInt = _) (by decide : (ci 1).toInt = 1) (by omega) (by omega)) (by omega) (by omega)) ?_
  refine ok_b2 (P := fun τ => JL τ.2) (ok_k (T_X12_empty hJ_2.2.1) (K_X12_empty kv0) (fun τ q k => JM hJ_2 (RF_RW (RX_RM q.2).1) k)) (fun _ s_3 (hJ_4 : JL s_3) => ?_)
  exact law_next hx0 hx hL hJ_4
theorem T_law_895 {LN : Nat} {Lx : Nat → Int32} {x3 : Int32} {s : mG} (hx0 : 0 ≤ x3.toInt) (hx : x3.toInt + 6 ≤ (LN : Int)) (hL : LN ≤ 3072) (hJ : JL s) : ok (F_law_895 LN Lx x3 s) (LPo x3) := by
  unfold F_law_895
  refine ok_b1 (P := PT) (ok_mono (T_X11_thief hJ.1) (fun _ _ => trivial)) (fun _ _ => ?_)
  refine ok_b1 (P := PT) (ok_mono (T_X12_thief hJ.2.1) (fun _ _ => trivial)) (fun _ _ => ?_)
  exact law_next hx0 hx hL hJ
theorem T_law_908 {LN : Nat} {Lx : Nat → Int32} {x3 : Int32} {s : mG} (hx0 : 0 ≤ x3.toInt) (hx : x3.toInt + 6 ≤ (LN : Int)) (hL : LN ≤ 3072) (hJ : JL s) : ok (F_law_908 LN Lx x3 s) (LPo x3) := by
  unfold F_law_908
  refine ok_nn (ix_ok (r_add (rfl : x3.toInt = _) (by decide : (ci 1).toInt = 1) (by omega) (by omega)) (by omega) (by omega)) ?_
  refine ok_nn (ix_ok (r_add (rfl : x3.toInt = _) (by decide : (ci 2).toInt = 2) (by omega) (by omega)) (by omega) (by omega)) ?_
  refine ok_nn (ix_ok (r_add (rfl : x3.toInt = _) (by decide : (ci 3).toInt = 3) (by omega) (by omega)) (by omega) (by omega)) ?_
  refine ok_b2 (P := fun τ => JL τ.2) (ok_k (T_X11_tagCost hJ.1) (K_X11_tagCost kv0) (fun τ q k => JC hJ q k)) (fun _ s_1 (hJ_2 : JL s_1) => ?_)
  refine ok_nn (ix_ok (r_add (rfl : x3.toInt = _) (by decide : (ci 1).toInt = 1) (by omega) (by omega)) (by omega) (by omega)) ?_
  refine ok_nn (ix_ok (r_add (rfl : x3.toInt = _) (by decide : (ci 2).toInt = 2) (by omega) (by omega)) (by omega) (by omega)) ?_
  refine ok_nn (ix_ok (r_add (rfl : x3.toInt = _) (by decide : (ci 3).toInt = 3) (by omega) (by omega)) (by omega) (by omega)) ?_
  refine ok_b2 (P := fun τ => JL τ.2) (ok_k (T_X12_tagCost hJ_2.2.1) (K_X12_tagCost kv0) (fun τ q k => JM hJ_2 (RF_RW (RX_RM q.2).1) k)) (fun _ s_3 (hJ_4 : JL s_3) => ?_)
  exact law_next hx0 hx hL hJ_4
theorem T_law_951 {LN : Nat} {Lx : Nat → Int32} {x3 : Int32} {s : mG} (hx0 : 0 ≤ x3.toInt) (hx : x3.toInt + 6 ≤ (LN : Int)) (hL : LN ≤ 3072) (hJ : JL s) : ok (F_law_951 LN Lx x3 s) (LPo x3) := by
  unfold F_law_951
  refine ok_nn (ix_ok (r_add (rfl : x3.toInt = _) (by decide : (ci 1).toInt = 1) (by omega) (by omega)) (by omega) (by omega)) ?_
  refine ok_nn (ix_ok (r_add (rfl : x3.toInt = _) (by decide : (ci 2).toInt = 2) (by omega) (by omega)) (by omega) (by omega)) ?_
  refine ok_b1 (P := PT) (ok_mono (T_X11_saw hJ.1) (fun _ _ => trivial)) (fun _ _ => ?_)
  refine ok_nn (ix_ok (r_add (rfl : x3.toInt = _) (by decide : (ci 1).toInt = 1) (by omega) (by omega)) (by omega) (by omega)) ?_
  refine ok_nn (ix_ok (r_add (rfl : x3.toInt = _) (by decide : (ci 2).toInt = 2) (by omega) (by omega)) (by omega) (by omega)) ?_
  refine ok_b1 (P := PT) (ok_mono (T_X12_saw hJ.2.1) (fun _ _ => trivial)) (fun _ _ => ?_)
  exact law_next hx0 hx hL hJ
theorem T_law_984 {LN : Nat} {Lx : Nat → Int32} {x3 : Int32} {s : mG} (hx0 : 0 ≤ x3.toInt) (hx : x3.toInt + 6 ≤ (LN : Int)) (hL : LN ≤ 3072) (hJ : JL s) : ok (F_law_984 LN Lx x3 s) (LPo x3) := by
  unfold F_law_984
  refine ok_nn (ix_ok (r_add (rfl : x3.toInt = _) (by decide : (ci 1).toInt = 1) (by omega) (by omega)) (by omega) (by omega)) ?_
  refine ok_nn (ix_ok (r_add (rfl : x3.toInt = _) (by decide : (ci 2).toInt = 2) (by omega) (by omega)) (by omega) (by omega)) ?_
  refine ok_b1 (P := PT) (ok_mono (T_X11_by hJ.1) (fun _ _ => trivial)) (fun _ _ => ?_)
  refine ok_nn (ix_ok (r_add (rfl : x3.toInt = _) (by decide : (ci 1).toInt = 1) (by omega) (by omega)) (by omega) (by omega)) ?_
  refine ok_nn (ix_ok (r_add (rfl : x3.toInt = _) (by decide : (ci 2).toInt = 2) (by omega) (by omega)) (by omega) (by omega)) ?_
  refine ok_b1 (P := PT) (ok_mono (T_X12_by hJ.2.1) (fun _ _ => trivial)) (fun _ _ => ?_)
  exact law_next hx0 hx hL hJ
theorem T_law_1017 {LN : Nat} {Lx : Nat → Int32} {x3 : Int32} {s : mG} (hx0 : 0 ≤ x3.toInt) (hx : x3.toInt + 6 ≤ (LN : Int)) (hL : LN ≤ 3072) (hJ : JL s) : ok (F_law_1017 LN Lx x3 s) (LPo x3) := by
  unfold F_law_1017
  refine ok_nn (ix_ok (r_add (rfl : x3.toInt = _) (by decide : (ci 1).toInt = 1) (by omega) (by omega)) (by omega) (by omega)) ?_
  refine ok_nn (ix_ok (r_add (rfl : x3.toInt = _) (by decide : (ci 2).toInt = 2) (by omega) (by omega)) (by omega) (by omega)) ?_
  refine ok_nn (ix_ok (r_add (rfl : x3.toInt = _) (by decide : (ci 3).toInt = 3) (by omega) (by omega)) (by omega) (by omega)) ?_
  refine ok_b2 (P := fun τ => JL τ.2) (ok_k (T_X11_caller hJ.1) (K_X11_caller kv0) (fun τ q k => JC hJ q k)) (fun _ s_1 (hJ_2 : JL s_1) => ?_)
  refine ok_nn (ix_ok (r_add (rfl : x3.toInt = _) (by decide : (ci 1).toInt = 1) (by omega) (by omega)) (by omega) (by omega)) ?_
  refine ok_nn (ix_ok (r_add (rfl : x3.toInt = _) (by decide : (ci 2).toInt = 2) (by omega) (by omega)) (by omega) (by omega)) ?_
  refine ok_nn (ix_ok (r_add (rfl : x3.toInt = _) (by decide : (ci 3).toInt = 3) (by omega) (by omega)) (by omega) (by omega)) ?_
  refine ok_b2 (P := fun τ => JL τ.2) (ok_k (T_X12_caller hJ_2.2.1) (K_X12_caller kv0) (fun τ q k => JM hJ_2 (RF_RW q.2.1) k)) (fun _ s_3 (hJ_4 : JL s_3) => ?_)
  exact law_next hx0 hx hL hJ_4
theorem T_law_1060 {LN : Nat} {Lx : Nat → Int32} {x3 : Int32} {s : mG} (hx0 : 0 ≤ x3.toInt) (hx : x3.toInt + 6 ≤ (LN : Int)) (hL : LN ≤ 3072) (hJ : JL s) : ok (F_law_1060 LN Lx x3 s) (LPo x3) := by
  unfold F_law_1060
  refine ok_nn (ix_ok (r_add (rfl : x3.toInt = _) (by decide : (ci 1).toInt = 1) (by omega) (by omega)) (by omega) (by omega)) ?_
  refine ok_b2 (P := fun τ => JL τ.2) (ok_k (T_X11_said hJ.1) (K_X11_said kv0) (fun τ q k => JC hJ q k)) (fun _ s_1 (hJ_2 : JL s_1) => ?_)
  refine ok_nn (ix_ok (r_add (rfl : x3.toInt = _) (by decide : (ci 1).toInt = 1) (by omega) (by omega)) (by omega) (by omega)) ?_
  refine ok_b2 (P := fun τ => JL τ.2) (ok_k (T_X12_said hJ_2.2.1) (K_X12_said kv0) (fun τ q k => JM hJ_2 (RF_RW (RX_RM q.2).1) k)) (fun _ s_3 (hJ_4 : JL s_3) => ?_)
  exact law_next hx0 hx hL hJ_4
theorem T_law_1083 {LN : Nat} {Lx : Nat → Int32} {x3 : Int32} {s : mG} (hx0 : 0 ≤ x3.toInt) (hx : x3.toInt + 6 ≤ (LN : Int)) (hL : LN ≤ 3072) (hJ : JL s) : ok (F_law_1083 LN Lx x3 s) (LPo x3) := by
  unfold F_law_1083
  refine ok_nn (ix_ok (r_add (rfl : x3.toInt = _) (by decide : (ci 1).toInt = 1) (by omega) (by omega)) (by omega) (by omega)) ?_
  refine ok_nn (ix_ok (r_add (rfl : x3.toInt = _) (by decide : (ci 2).toInt = 2) (by omega) (by omega)) (by omega) (by omega)) ?_
  refine ok_b2 (P := fun τ => JL τ.2) (ok_k (T_X11_looksAt hJ.1) (K_X11_looksAt kv0) (fun τ q k => JC hJ q k)) (fun _ s_1 (hJ_2 : JL s_1) => ?_)
  refine ok_nn (ix_ok (r_add (rfl : x3.toInt = _) (by decide : (ci 1).toInt = 1) (by omega) (by omega)) (by omega) (by omega)) ?_
  refine ok_nn (ix_ok (r_add (rfl : x3.toInt = _) (by decide : (ci 2).toInt = 2) (by omega) (by omega)) (by omega) (by omega)) ?_
  refine ok_b2 (P := fun τ => JL τ.2) (ok_k (T_X12_looksAt hJ_2.2.1) (K_X12_looksAt kv0) (fun τ q k => JM hJ_2 (RF_RW (RX_RM q.2).1) k)) (fun _ s_3 (hJ_4 : JL s_3) => ?_)
  exact law_next hx0 hx hL hJ_4
theorem T_law_1116 {LN : Nat} {Lx : Nat → Int32} {x3 : Int32} {s : mG} (hx0 : 0 ≤ x3.toInt) (hx : x3.toInt + 6 ≤ (LN : Int)) (hL : LN ≤ 3072) (hJ : JL s) : ok (F_law_1116 LN Lx x3 s) (LPo x3) := by
  unfold F_law_1116
  refine ok_nn (ix_ok (r_add (rfl : x3.toInt = _) (by decide : (ci 1).toInt = 1) (by omega) (by omega)) (by omega) (by omega)) ?_
  refine ok_b2 (P := fun τ => JL τ.2) (ok_k (T_X11_pair hJ.1) (K_X11_pair kv0) (fun τ q k => JC hJ q k)) (fun _ s_1 (hJ_2 : JL s_1) => ?_)
  refine ok_nn (ix_ok (r_add (rfl : x3.toInt = _) (by decide : (ci 1).toInt = 1) (by omega) (by omega)) (by omega) (by omega)) ?_
  refine ok_b2 (P := fun τ => JL τ.2) (ok_k (T_X12_pair hJ_2.2.1) (K_X12_pair kv0) (fun τ q k => JM hJ_2 (RF_RW (RX_RM q.2).1) k)) (fun _ s_3 (hJ_4 : JL s_3) => ?_)
  exact law_next hx0 hx hL hJ_4
theorem T_law_1139 {LN : Nat} {Lx : Nat → Int32} {x3 : Int32} {s : mG} (hx0 : 0 ≤ x3.toInt) (hx : x3.toInt + 6 ≤ (LN : Int)) (hL : LN ≤ 3072) (hJ : JL s) : ok (F_law_1139 LN Lx x3 s) (LPo x3) := by
  unfold F_law_1139
  refine ok_nn (ix_ok (r_add (rfl : x3.toInt = _) (by decide : (ci 1).toInt = 1) (by omega) (by omega)) (by omega) (by omega)) ?_
  refine ok_b1 (P := PT) (ok_mono (T_X11_ring hJ.1) (fun _ _ => trivial)) (fun _ _ => ?_)
  refine ok_nn (ix_ok (r_add (rfl : x3.toInt = _) (by decide : (ci 1).toInt = 1) (by omega) (by omega)) (by omega) (by omega)) ?_
  refine ok_b1 (P := PT) (ok_mono (T_X12_ring hJ.2.1) (fun _ _ => trivial)) (fun _ _ => ?_)
  exact law_next hx0 hx hL hJ
theorem T_law_1162 {LN : Nat} {Lx : Nat → Int32} {x3 : Int32} {s : mG} (hx0 : 0 ≤ x3.toInt) (hx : x3.toInt + 6 ≤ (LN : Int)) (hL : LN ≤ 3072) (hJ : JL s) : ok (F_law_1162 LN Lx x3 s) (LPo x3) := by
  unfold F_law_1162
  refine ok_nn (ix_ok (r_add (rfl : x3.toInt = _) (by decide : (ci 1).toInt = 1) (by omega) (by omega)) (by omega) (by omega)) ?_
  refine ok_b2 (P := fun τ => JL τ.2) (ok_k (T_X11_busy hJ.1) (K_X11_busy kv0) (fun τ q k => JC hJ q k)) (fun _ s_1 (hJ_2 : JL s_1) => ?_)
  refine ok_nn (ix_ok (r_add (rfl : x3.toInt = _) (by decide : (ci 1).toInt = 1) (by omega) (by omega)) (by omega) (by omega)) ?_
  refine ok_b2 (P := fun τ => JL τ.2) (ok_k (T_X12_busy hJ_2.2.1) (K_X12_busy kv0) (fun τ q k => JM hJ_2 (RF_RW (RX_RM q.2).1) k)) (fun _ s_3 (hJ_4 : JL s_3) => ?_)
  exact law_next hx0 hx hL hJ_4
theorem T_law_1185 {LN : Nat} {Lx : Nat → Int32} {x3 : Int32} {s : mG} (hx0 : 0 ≤ x3.toInt) (hx : x3.toInt + 6 ≤ (LN : Int)) (hL : LN ≤ 3072) (hJ : JL s) : ok (F_law_1185 LN Lx x3 s) (LPo x3) := by
  unfold F_law_1185
  refine ok_b2 (P := fun τ => JL τ.2) (ok_k (T_X11_expect hJ.1) (K_X11_expect kv0) (fun τ q k => JC hJ q k)) (fun _ s_1 (hJ_2 : JL s_1) => ?_)
  refine ok_b2 (P := fun τ => JL τ.2) (ok_k (T_X12_expect hJ_2.2.1) (K_X12_expect kv0) (fun τ q k => JM hJ_2 (RF_RW (RX_RM q.2).1) k)) (fun _ s_3 (hJ_4 : JL s_3) => ?_)
  exact law_next hx0 hx hL hJ_4
theorem T_law_1198 {LN : Nat} {Lx : Nat → Int32} {x3 : Int32} {s : mG} (hx0 : 0 ≤ x3.toInt) (hx : x3.toInt + 6 ≤ (LN : Int)) (hL : LN ≤ 3072) (hJ : JL s) : ok (F_law_1198 LN Lx x3 s) (LPo x3) := by
  unfold F_law_1198
  refine ok_nn (ix_ok (r_add (rfl : x3.toInt = _) (by decide : (ci 1).toInt = 1) (by omega) (by omega)) (by omega) (by omega)) ?_
  refine ok_b2 (P := fun τ => JL τ.2) (ok_k (T_X11_lack hJ.1) (K_X11_lack kv0) (fun τ q k => JC hJ q k)) (fun _ s_1 (hJ_2 : JL s_1) => ?_)
  refine ok_nn (ix_ok (r_add (rfl : x3.toInt = _) (by decide : (ci 1).toInt = 1) (by omega) (by omega)) (by omega) (by omega)) ?_
  refine ok_b2 (P := fun τ => JL τ.2) (ok_k (T_X12_lack hJ_2.2.1) (K_X12_lack kv0) (fun τ q k => JM hJ_2 (RF_RW (RX_RM q.2).1) k)) (fun _ s_3 (hJ_4 : JL s_3) => ?_)
  exact law_next hx0 hx hL hJ_4
theorem T_law_1221 {LN : Nat} {Lx : Nat → Int32} {x3 : Int32} {s : mG} (hx0 : 0 ≤ x3.toInt) (hx : x3.toInt + 6 ≤ (LN : Int)) (hL : LN ≤ 3072) (hJ : JL s) : ok (F_law_1221 LN Lx x3 s) (LPo x3) := by
  unfold F_law_1221
  refine ok_nn (ix_ok (r_add (rfl : x3.toInt = _) (by decide : (ci 1).toInt = 1) (by omega) (by omega)) (by omega) (by omega)) ?_
  refine ok_b2 (P := fun τ => JL τ.2) (ok_k (T_X11_knocks hJ.1) (K_X11_knocks kv0) (fun τ q k => JC hJ q k)) (fun _ s_1 (hJ_2 : JL s_1) => ?_)
  refine ok_nn (ix_ok (r_add (rfl : x3.toInt = _) (by decide : (ci 1).toInt = 1) (by omega) (by omega)) (by omega) (by omega)) ?_
  refine ok_b2 (P := fun τ => JL τ.2) (ok_k (T_X12_knocks hJ_2.2.1) (K_X12_knocks kv0) (fun τ q k => JM hJ_2 (RF_RW (RX_RM q.2).1) k)) (fun _ s_3 (hJ_4 : JL s_3) => ?_)
  exact law_next hx0 hx hL hJ_4
theorem T_law_1244 {LN : Nat} {Lx : Nat → Int32} {x3 : Int32} {s : mG} (hx0 : 0 ≤ x3.toInt) (hx : x3.toInt + 6 ≤ (LN : Int)) (hL : LN ≤ 3072) (hJ : JL s) : ok (F_law_1244 LN Lx x3 s) (LPo x3) := by
  unfold F_law_1244
  refine ok_nn (ix_ok (r_add (rfl : x3.toInt = _) (by decide : (ci 1).toInt = 1) (by omega) (by omega)) (by omega) (by omega)) ?_
  refine ok_nn (ix_ok (r_add (rfl : x3.toInt = _) (by decide : (ci 2).toInt = 2) (by omega) (by omega)) (by omega) (by omega)) ?_
  refine ok_b2 (P := fun τ => JL τ.2) (ok_k (T_X11_tag hJ.1) (K_X11_tag kv0) (fun τ q k => JC hJ q k)) (fun _ s_1 (hJ_2 : JL s_1) => ?_)
  refine ok_nn (ix_ok (r_add (rfl : x3.toInt = _) (by decide : (ci 1).toInt = 1) (by omega) (by omega)) (by omega) (by omega)) ?_
  refine ok_nn (ix_ok (r_add (rfl : x3.toInt = _) (by decide : (ci 2).toInt = 2) (by omega) (by omega)) (by omega) (by omega)) ?_
  refine ok_b2 (P := fun τ => JL τ.2) (ok_k (T_X12_tag hJ_2.2.1) (K_X12_tag kv0) (fun τ q k => JM hJ_2 (RF_RW (RX_RM q.2).1) k)) (fun _ s_3 (hJ_4 : JL s_3) => ?_)
  exact law_next hx0 hx hL hJ_4
theorem T_law_1277 {LN : Nat} {Lx : Nat → Int32} {x3 : Int32} {s : mG} (hx0 : 0 ≤ x3.toInt) (hx : x3.toInt + 6 ≤ (LN : Int)) (hL : LN ≤ 3072) (hJ : JL s) : ok (F_law_1277 LN Lx x3 s) (LPo x3) := by
  unfold F_law_1277
  refine ok_nn (ix_ok (r_add (rfl : x3.toInt = _) (by decide : (ci 1).toInt = 1) (by omega) (by omega)) (by omega) (by omega)) ?_
  refine ok_nn (ix_ok (r_add (rfl : x3.toInt = _) (by decide : (ci 2).toInt = 2) (by omega) (by omega)) (by omega) (by omega)) ?_
  refine ok_nn (ix_ok (r_add (rfl : x3.toInt = _) (by decide : (ci 3).toInt = 3) (by omega) (by omega)) (by omega) (by omega)) ?_
  refine ok_nn (ix_ok (r_add (rfl : x3.toInt = _) (by decide : (ci 4).toInt = 4) (by omega) (by omega)) (by omega) (by omega)) ?_
  refine ok_b2 (P := fun τ => JL τ.2) (ok_k (T_X11_room hJ.1) (K_X11_room kv0) (fun τ q k => JC hJ q k)) (fun _ s_1 (hJ_2 : JL s_1) => ?_)
  refine ok_nn (ix_ok (r_add (rfl : x3.toInt = _) (by decide : (ci 1).toInt = 1) (by omega) (by omega)) (by omega) (by omega)) ?_
  refine ok_nn (ix_ok (r_add (rfl : x3.toInt = _) (by decide : (ci 2).toInt = 2) (by omega) (by omega)) (by omega) (by omega)) ?_
  refine ok_nn (ix_ok (r_add (rfl : x3.toInt = _) (by decide : (ci 3).toInt = 3) (by omega) (by omega)) (by omega) (by omega)) ?_
  refine ok_nn (ix_ok (r_add (rfl : x3.toInt = _) (by decide : (ci 4).toInt = 4) (by omega) (by omega)) (by omega) (by omega)) ?_
  refine ok_b2 (P := fun τ => JL τ.2) (ok_k (T_X12_room hJ_2.2.1) (K_X12_room kv0) (fun τ q k => JM hJ_2 (RF_RW q.2.1) k)) (fun _ s_3 (hJ_4 : JL s_3) => ?_)
  exact law_next hx0 hx hL hJ_4
theorem T_law_1330 {LN : Nat} {Lx : Nat → Int32} {x3 : Int32} {s : mG} (hx0 : 0 ≤ x3.toInt) (hx : x3.toInt + 6 ≤ (LN : Int)) (hL : LN ≤ 3072) (hJ : JL s) : ok (F_law_1330 LN Lx x3 s) (LPo x3) := by
  unfold F_law_1330
  refine ok_nn (ix_ok (r_add (rfl : x3.toInt = _) (by decide : (ci 1).toInt = 1) (by omega) (by omega)) (by omega) (by omega)) ?_
  refine ok_b1 (P := PT) (ok_mono (T_X11_done hJ.1) (fun _ _ => trivial)) (fun _ _ => ?_)
  refine ok_nn (ix_ok (r_add (rfl : x3.toInt = _) (by decide : (ci 1).toInt = 1) (by omega) (by omega)) (by omega) (by omega)) ?_
  refine ok_b1 (P := PT) (ok_mono (T_X12_done hJ.2.1) (fun _ _ => trivial)) (fun _ _ => ?_)
  exact law_next hx0 hx hL hJ
theorem T_law_1353 {LN : Nat} {Lx : Nat → Int32} {x3 : Int32} {s : mG} (hx0 : 0 ≤ x3.toInt) (hx : x3.toInt + 6 ≤ (LN : Int)) (hL : LN ≤ 3072) (hJ : JL s) : ok (F_law_1353 LN Lx x3 s) (LPo x3) := by
  unfold F_law_1353
  refine ok_nn (ix_ok (r_add (rfl : x3.toInt = _) (by decide : (ci 1).toInt = 1) (by omega) (by omega)) (by omega) (by omega)) ?_
  refine ok_b1 (P := PT) (ok_mono (T_X11_swapped hJ.1) (fun _ _ => trivial)) (fun _ _ => ?_)
  refine ok_nn (ix_ok (r_add (rfl : x3.toInt = _) (by decide : (ci 1).toInt = 1) (by omega) (by omega)) (by omega) (by omega)) ?_
  refine ok_b1 (P := PT) (ok_mono (T_X12_swapped hJ.2.1) (fun _ _ => trivial)) (fun _ _ => ?_)
  exact law_next hx0 hx hL hJ
theorem T_law_1376 {LN : Nat} {Lx : Nat → Int32} {x3 : Int32} {s : mG} (hx0 : 0 ≤ x3.toInt) (hx : x3.toInt + 6 ≤ (LN : Int)) (hL : LN ≤ 3072) (hJ : JL s) : ok (F_law_1376 LN Lx x3 s) (LPo x3) := by
  unfold F_law_1376
  refine ok_nn (ix_ok (r_add (rfl : x3.toInt = _) (by decide : (ci 1).toInt = 1) (by omega) (by omega)) (by omega) (by omega)) ?_
  refine ok_nn (ix_ok (r_add (rfl : x3.toInt = _) (by decide : (ci 2).toInt = 2) (by omega) (by omega)) (by omega) (by omega)) ?_
  refine ok_b2 (P := fun τ => JL τ.2) (ok_k (T_X11_fire hJ.1) (K_X11_fire kv0) (fun τ q k => JC hJ q k)) (fun _ s_1 (hJ_2 : JL s_1) => ?_)
  refine ok_nn (ix_ok (r_add (rfl : x3.toInt = _) (by decide : (ci 1).toInt = 1) (by omega) (by omega)) (by omega) (by omega)) ?_
  refine ok_nn (ix_ok (r_add (rfl : x3.toInt = _) (by decide : (ci 2).toInt = 2) (by omega) (by omega)) (by omega) (by omega)) ?_
  refine ok_b2 (P := fun τ => JL τ.2) (ok_k (T_X12_fire hJ_2.2.1) (K_X12_fire kv0) (fun τ q k => JM hJ_2 (RF_RW (RX_RM q.2).1) k)) (fun _ s_3 (hJ_4 : JL s_3) => ?_)
  exact law_next hx0 hx hL hJ_4
theorem T_law_1409 {LN : Nat} {Lx : Nat → Int32} {x3 : Int32} {s : mG} (hx0 : 0 ≤ x3.toInt) (hx : x3.toInt + 6 ≤ (LN : Int)) (hL : LN ≤ 3072) (hJ : JL s) : ok (F_law_1409 LN Lx x3 s) (LPo x3) := by
  unfold F_law_1409
  refine ok_nn (ix_ok (r_add (rfl : x3.toInt = _) (by decide : (ci 1).toInt = 1) (by omega) (by omega)) (by omega) (by omega)) ?_
  refine ok_nn (ix_ok (r_add (rfl : x3.toInt = _) (by decide : (ci 2).toInt = 2) (by omega) (by omega)) (by omega) (by omega)) ?_
  refine ok_b2 (P := fun τ => JL τ.2) (ok_k (T_X11_stands hJ.1) (K_X11_stands kv0) (fun τ q k => JC hJ q k)) (fun _ s_1 (hJ_2 : JL s_1) => ?_)
  refine ok_nn (ix_ok (r_add (rfl : x3.toInt = _) (by decide : (ci 1).toInt = 1) (by omega) (by omega)) (by omega) (by omega)) ?_
  refine ok_nn (ix_ok (r_add (rfl : x3.toInt = _) (by decide : (ci 2).toInt = 2) (by omega) (by omega)) (by omega) (by omega)) ?_
  refine ok_b2 (P := fun τ => JL τ.2) (ok_k (T_X12_stands hJ_2.2.1) (K_X12_stands kv0) (fun τ q k => JM hJ_2 (RF_RW (RX_RM q.2).1) k)) (fun _ s_3 (hJ_4 : JL s_3) => ?_)
  exact law_next hx0 hx hL hJ_4
theorem T_law_1442 {LN : Nat} {Lx : Nat → Int32} {x3 : Int32} {s : mG} (hx0 : 0 ≤ x3.toInt) (hx : x3.toInt + 6 ≤ (LN : Int)) (hL : LN ≤ 3072) (hJ : JL s) : ok (F_law_1442 LN Lx x3 s) (LPo x3) := by
  unfold F_law_1442
  refine ok_nn (ix_ok (r_add (rfl : x3.toInt = _) (by decide : (ci 1).toInt = 1) (by omega) (by omega)) (by omega) (by omega)) ?_
  refine ok_b1 (P := PT) (ok_mono (T_X11_tellsOn hJ.1) (fun _ _ => trivial)) (fun _ _ => ?_)
  refine ok_nn (ix_ok (r_add (rfl : x3.toInt = _) (by decide : (ci 1).toInt = 1) (by omega) (by omega)) (by omega) (by omega)) ?_
  refine ok_b1 (P := PT) (ok_mono (T_X12_tellsOn hJ.2.1) (fun _ _ => trivial)) (fun _ _ => ?_)
  exact law_next hx0 hx hL hJ
theorem T_law_1465 {LN : Nat} {Lx : Nat → Int32} {x3 : Int32} {s : mG} (hx0 : 0 ≤ x3.toInt) (hx : x3.toInt + 6 ≤ (LN : Int)) (hL : LN ≤ 3072) (hJ : JL s) : ok (F_law_1465 LN Lx x3 s) (LPo x3) := by
  unfold F_law_1465
  refine ok_b2 (P := fun τ => JL τ.2) (ok_k (T_X11_carries hJ.1) (K_X11_carries kv0) (fun τ q k => JC hJ q k)) (fun _ s_1 (hJ_2 : JL s_1) => ?_)
  refine ok_b2 (P := fun τ => JL τ.2) (ok_k (T_X12_carries hJ_2.2.1) (K_X12_carries kv0) (fun τ q k => JM hJ_2 (RF_RW (RX_RM q.2).1) k)) (fun _ s_3 (hJ_4 : JL s_3) => ?_)
  exact law_next hx0 hx hL hJ_4
theorem T_law_1478 {LN : Nat} {Lx : Nat → Int32} {x3 : Int32} {s : mG} (hx0 : 0 ≤ x3.toInt) (hx : x3.toInt + 6 ≤ (LN : Int)) (hL : LN ≤ 3072) (hJ : JL s) : ok (F_law_1478 LN Lx x3 s) (LPo x3) := by
  unfold F_law_1478
  refine ok_nn (ix_ok (r_add (rfl : x3.toInt = _) (by decide : (ci 1).toInt = 1) (by omega) (by omega)) (by omega) (by omega)) ?_
  refine ok_nn (ix_ok (r_add (rfl : x3.toInt = _) (by decide : (ci 2).toInt = 2) (by omega) (by omega)) (by omega) (by omega)) ?_
  refine ok_b2 (P := fun τ => JL τ.2) (ok_k (T_X11_away hJ.1) (K_X11_away kv0) (fun τ q k => JC hJ q k)) (fun _ s_1 (hJ_2 : JL s_1) => ?_)
  refine ok_nn (ix_ok (r_add (rfl : x3.toInt = _) (by decide : (ci 1).toInt = 1) (by omega) (by omega)) (by omega) (by omega)) ?_
  refine ok_nn (ix_ok (r_add (rfl : x3.toInt = _) (by decide : (ci 2).toInt = 2) (by omega) (by omega)) (by omega) (by omega)) ?_
  refine ok_b2 (P := fun τ => JL τ.2) (ok_k (T_X12_away hJ_2.2.1) (K_X12_away kv0) (fun τ q k => JM hJ_2 (RF_RW (RX_RM q.2).1) k)) (fun _ s_3 (hJ_4 : JL s_3) => ?_)
  exact law_next hx0 hx hL hJ_4
theorem T_law_1511 {LN : Nat} {Lx : Nat → Int32} {x3 : Int32} {s : mG} (hx0 : 0 ≤ x3.toInt) (hx : x3.toInt + 6 ≤ (LN : Int)) (hL : LN ≤ 3072) (hJ : JL s) : ok (F_law_1511 LN Lx x3 s) (LPo x3) := by
  unfold F_law_1511
  refine ok_b2 (P := fun τ => JL τ.2) (ok_k (T_X11_undo hJ.1) (K_X11_undo kv0) (fun τ q k => JC hJ q.2 k)) (fun _ s_1 (hJ_2 : JL s_1) => ?_)
  refine ok_b2 (P := fun τ => JL τ.2) (ok_k (T_X12_undo hJ_2.2.1) (K_X12_undo kv0) (fun τ q k => JM hJ_2 (RF_RW q.2.1) k)) (fun _ s_3 (hJ_4 : JL s_3) => ?_)
  exact law_next hx0 hx hL hJ_4
theorem J_image {y : Int32} {s : mG} (hJ : JL s) : ok (F_X11_image y s) (fun τ => τ.1 = imv y (s.1 88 4) ∧ IC τ.2 ∧ (∀ j, 88 ≤ j → τ.2.1 j = s.1 j) ∧ τ.2.1 0 2 = imk y (s.1 88 4)) := by
  have hb : PB (s.1 0 2) := by rw [hJ.2.2.1]; exact hJ.2.2.2
  refine ok_k (T_X11_image hJ.1) (K_X11_image hb) (fun τ q k => ⟨k.1.trans (by rw [hJ.2.2.1]), q.2.1, q.2.2.1, k.2.trans (by rw [hJ.2.2.1])⟩)
theorem J_image2 {y : Int32} {s s1 : mG} (hJ : JL s) (h1 : IC s1) (h2 : ∀ j, 88 ≤ j → s1.1 j = s.1 j) (h3 : s1.1 0 2 = imk y (s.1 88 4)) : ok (F_X12_image y s1) (fun τ => τ.1 = imv y (s.1 88 4) ∧ JL τ.2) := by
  have e4 : s1.1 88 4 = s.1 88 4 := by rw [h2 88 (by decide)]
  have hM : IM s1 := IM_rows h2 hJ.2.1
  refine ok_k (T_X12_image hM) K_X12_image (fun τ q k => ?_)
  have r : RF s1 τ.2 := RF_RW q.2
  have k4 : τ.2.1 88 4 = imk y (s.1 88 4) := k.2.trans (by rw [e4])
  refine ⟨k.1.trans (by rw [e4]), IC_rows r.2 h1, r.1, ?_, ?_⟩
  · exact (congrFun (r.2 0 (by decide)) 2).trans (h3.trans k4.symm)
  · rw [k4]; exact imk_pb hJ.2.2.2
theorem T_law_1524 {LN : Nat} {Lx : Nat → Int32} {x3 : Int32} {s : mG} (hx0 : 0 ≤ x3.toInt) (hx : x3.toInt + 6 ≤ (LN : Int)) (hL : LN ≤ 3072) (hJ : JL s) : ok (F_law_1524 LN Lx x3 s) (LPo x3) := by
  unfold F_law_1524
  refine ok_nn (ix_ok (r_add (rfl : x3.toInt = _) (by decide : (ci 1).toInt = 1) (by omega) (by omega)) (by omega) (by omega)) ?_
  refine ok_ite (fun c1 => ?_) (fun c1 => ?_)
  · unfold F_law_1538
    refine ok_b2 (J_image hJ) (fun v1 s1 q => ?_)
    have q1 : v1 = imv (ci 0) (s.1 88 4) := q.1
    have q2 : IC s1 := q.2.1
    have q3 : ∀ j, 88 ≤ j → s1.1 j = s.1 j := q.2.2.1
    have q4 : s1.1 0 2 = imk (ci 0) (s.1 88 4) := q.2.2.2
    clear q
    refine ok_nn (ix_ok (r_add (rfl : x3.toInt = _) (by decide : (ci 1).toInt = 1) (by omega) (by omega)) (by omega) (by omega)) ?_
    refine ok_ite (fun _ => ?_) (fun c2 => absurd c1 c2)
    unfold F_law_1555
    refine ok_b2 (J_image2 hJ q2 q3 q4) (fun v2 s2 q => ?_)
    have k1 : v2 = imv (ci 0) (s.1 88 4) := q.1
    have J2 : JL s2 := q.2
    clear q
    exact ok_ite (fun _ => law_next hx0 hx hL J2) (fun c => absurd (q1.trans k1.symm) c)
  · unfold F_law_1538
    refine ok_b2 (J_image hJ) (fun v1 s1 q => ?_)
    have q1 : v1 = imv (ci 1) (s.1 88 4) := q.1
    have q2 : IC s1 := q.2.1
    have q3 : ∀ j, 88 ≤ j → s1.1 j = s.1 j := q.2.2.1
    have q4 : s1.1 0 2 = imk (ci 1) (s.1 88 4) := q.2.2.2
    clear q
    refine ok_nn (ix_ok (r_add (rfl : x3.toInt = _) (by decide : (ci 1).toInt = 1) (by omega) (by omega)) (by omega) (by omega)) ?_
    refine ok_ite (fun c2 => absurd c2 c1) (fun _ => ?_)
    unfold F_law_1555
    refine ok_b2 (J_image2 hJ q2 q3 q4) (fun v2 s2 q => ?_)
    have k1 : v2 = imv (ci 1) (s.1 88 4) := q.1
    have J2 : JL s2 := q.2
    clear q
    exact ok_ite (fun _ => law_next hx0 hx hL J2) (fun c => absurd (q1.trans k1.symm) c)
theorem T_law_1563 {LN : Nat} {Lx : Nat → Int32} {x3 : Int32} {s : mG} (hx0 : 0 ≤ x3.toInt) (hx : x3.toInt + 6 ≤ (LN : Int)) (hL : LN ≤ 3072) (hJ : JL s) : ok (F_law_1563 LN Lx x3 s) (LPo x3) := by
  unfold F_law_1563
  refine ok_nn (ix_ok (r_add (rfl : x3.toInt = _) (by decide : (ci 1).toInt = 1) (by omega) (by omega)) (by omega) (by omega)) ?_
  refine ok_b1 (P := PT) (ok_mono (T_X11_look hJ.1) (fun _ _ => trivial)) (fun _ _ => ?_)
  refine ok_nn (ix_ok (r_add (rfl : x3.toInt = _) (by decide : (ci 1).toInt = 1) (by omega) (by omega)) (by omega) (by omega)) ?_
  refine ok_b1 (P := PT) (ok_mono (T_X12_look hJ.2.1) (fun _ _ => trivial)) (fun _ _ => ?_)
  exact law_next hx0 hx hL hJ
theorem T_law_B18 {LN : Nat} {Lx : Nat → Int32} {x3 : Int32} {s : mG} (hx0 : 0 ≤ x3.toInt) (hx3 : x3.toInt ≤ 4000) (hL : LN ≤ 3072) (hJ : JL s) : ok (F_law_B18 LN Lx x3 s) (LPo x3) := by
  unfold F_law_B18
  refine ok_ite (fun _ => ok_some (lp_inr (show ci 1 = 1 by decide))) (fun c => ?_)
  have hx : x3.toInt + 6 ≤ (LN : Int) := by
    have := r_nlt (r_sub (t_cn (n := LN) (by omega)) (by decide : (c8 6).toInt = 6) (by omega) (by omega)) (rfl : x3.toInt = _) c
    omega
  clear c
  refine ok_nn (ix_ok (rfl : x3.toInt = _) (by omega) (by omega)) ?_
  refine ok_ite (fun _ => T_law_232 hx0 hx hL hJ) (fun _ => ?_)
  refine ok_ite (fun _ => T_law_255 hx0 hx hL hJ) (fun _ => ?_)
  refine ok_ite (fun _ => T_law_288 hx0 hx hL hJ) (fun _ => ?_)
  refine ok_ite (fun _ => T_law_331 hx0 hx hL hJ) (fun _ => ?_)
  refine ok_ite (fun _ => T_law_364 hx0 hx hL hJ) (fun _ => ?_)
  refine ok_ite (fun _ => T_law_407 hx0 hx hL hJ) (fun _ => ?_)
  refine ok_ite (fun _ => T_law_430 hx0 hx hL hJ) (fun _ => ?_)
  refine ok_ite (fun _ => T_law_493 hx0 hx hL hJ) (fun _ => ?_)
  refine ok_ite (fun _ => T_law_516 hx0 hx hL hJ) (fun _ => ?_)
  refine ok_ite (fun _ => T_law_539 hx0 hx hL hJ) (fun _ => ?_)
  refine ok_ite (fun _ => T_law_562 hx0 hx hL hJ) (fun _ => ?_)
  refine ok_ite (fun _ => T_law_595 hx0 hx hL hJ) (fun _ => ?_)
  refine ok_ite (fun _ => T_law_618 hx0 hx hL hJ) (fun _ => ?_)
  refine ok_ite (fun _ => T_law_651 hx0 hx hL hJ) (fun _ => ?_)
  refine ok_ite (fun _ => T_law_684 hx0 hx hL hJ) (fun _ => ?_)
  refine ok_ite (fun _ => T_law_707 hx0 hx hL hJ) (fun _ => ?_)
  refine ok_ite (fun _ => T_law_750 hx0 hx hL hJ) (fun _ => ?_)
  refine ok_ite (fun _ => T_law_773 hx0 hx hL hJ) (fun _ => ?_)
  refine ok_ite (fun _ => T_law_806 hx0 hx hL hJ) (fun _ => ?_)
  refine ok_ite (fun _ => T_law_839 hx0 hx hL hJ) (fun _ => ?_)
  refine ok_ite (fun _ => T_law_872 hx0 hx hL hJ) (fun _ => ?_)
  refine ok_ite (fun _ => T_law_895 hx0 hx hL hJ) (fun _ => ?_)
  refine ok_ite (fun _ => T_law_908 hx0 hx hL hJ) (fun _ => ?_)
  refine ok_ite (fun _ => T_law_951 hx0 hx hL hJ) (fun _ => ?_)
  refine ok_ite (fun _ => T_law_984 hx0 hx hL hJ) (fun _ => ?_)
  refine ok_ite (fun _ => T_law_1017 hx0 hx hL hJ) (fun _ => ?_)
  refine ok_ite (fun _ => T_law_1060 hx0 hx hL hJ) (fun _ => ?_)
  refine ok_ite (fun _ => T_law_1083 hx0 hx hL hJ) (fun _ => ?_)
  refine ok_ite (fun _ => T_law_1116 hx0 hx hL hJ) (fun _ => ?_)
  refine ok_ite (fun _ => T_law_1139 hx0 hx hL hJ) (fun _ => ?_)
  refine ok_ite (fun _ => T_law_1162 hx0 hx hL hJ) (fun _ => ?_)
  refine ok_ite (fun _ => T_law_1185 hx0 hx hL hJ) (fun _ => ?_)
  refine ok_ite (fun _ => T_law_1198 hx0 hx hL hJ) (fun _ => ?_)
  refine ok_ite (fun _ => T_law_1221 hx0 hx hL hJ) (fun _ => ?_)
  refine ok_ite (fun _ => T_law_1244 hx0 hx hL hJ) (fun _ => ?_)
  refine ok_ite (fun _ => T_law_1277 hx0 hx hL hJ) (fun _ => ?_)
  refine ok_ite (fun _ => T_law_1330 hx0 hx hL hJ) (fun _ => ?_)
  refine ok_ite (fun _ => T_law_1353 hx0 hx hL hJ) (fun _ => ?_)
  refine ok_ite (fun _ => T_law_1376 hx0 hx hL hJ) (fun _ => ?_)
  refine ok_ite (fun _ => T_law_1409 hx0 hx hL hJ) (fun _ => ?_)
  refine ok_ite (fun _ => T_law_1442 hx0 hx hL hJ) (fun _ => ?_)
  refine ok_ite (fun _ => T_law_1465 hx0 hx hL hJ) (fun _ => ?_)
  refine ok_ite (fun _ => T_law_1478 hx0 hx hL hJ) (fun _ => ?_)
  refine ok_ite (fun _ => T_law_1511 hx0 hx hL hJ) (fun _ => ?_)
  refine ok_ite (fun _ => T_law_1524 hx0 hx hL hJ) (fun _ => ?_)
  refine ok_ite (fun _ => T_law_1563 hx0 hx hL hJ) (fun _ => ?_)
  exact law_next hx0 hx hL hJ
theorem F_law_ok {L : Nat} {xs : Nat → Int32} {s : mG} (hL : L ≤ 3072) (hJ : JL s) : ok (F_law L xs s) (fun τ => τ.1 = 1) := by
  unfold F_law F_law_L18
  refine ok_whl (fun v => JL v.2 ∧ 0 ≤ v.1.toInt ∧ v.1.toInt ≤ 4000) (fun v => mUp v.1) ⟨hJ, show 0 ≤ (ci 0).toInt by decide, show (ci 0).toInt ≤ 4000 by decide⟩ (fun v hv => ?_)
  obtain ⟨x3, s⟩ := v
  obtain ⟨q1, q2, q3⟩ := hv
  exact T_law_B18 q2 q3 hL q1
theorem ok_one {α : Type} {o : Option (Int32 × α)} (h : ok o (fun τ => τ.1 = 1)) : ∃ s', o = some (1, s') := by
  obtain ⟨⟨v, s'⟩, h1, h2⟩ := h
  have h2 : v = 1 := h2
  exact ⟨s', by rw [h1, h2]⟩
theorem F_law_total (L : Nat) (xs : Nat → Int32) (hL : L ≤ 3072) : ∃ s', F_law L xs s0 = some (1, s') := ok_one (F_law_ok hL JL_s0)
end
