noncomputable section
/-! WHERE NOTHING IS REFUSED THE OLD FAULT STANDS (the class) -/
def KT (z s : mG) : Prop := s.1 55 10 = z.1 55 10 ∧ s.1 55 11 = z.1 55 11
def KB2 (z : mG) (τ : Int32 × mG) : Prop := τ.1 = 0 ∨ KT z τ.2
theorem KT_mu {z s : mG} {i k : Nat} {v : Int32} (h : KT z s) (d : i ≠ 55 ∨ (k ≠ 10 ∧ k ≠ 11)) : KT z (mu s.1 i k v, s.2) := ⟨(mu_cellQ (by omega)).trans h.1, (mu_cellQ (by omega)).trans h.2⟩
theorem KT_row {z s u : mG} (h : KT z s) (e : u.1 55 = s.1 55) : KT z u := by
  unfold KT
  rw [e]; exact h
theorem kt_put {t : Nat} {z s : mG} {a b c : Int32} (ht : t + 1 ≠ 55) (h : KT z s) : pk (F_X10_put t a b c s) (KT z) := fun u hu => KT_row h (V_putF u hu 55 (fun e => ht e.symm))
theorem kt_push {z s : mG} {a : Int32} (h : KT z s) : pk (F_X10_push 58 a s) (KT z) := by
  unfold F_X10_push
  refine pk_ite (pk_some h) ?_
  exact pk_b1 (kt_put (z := z) (by omega) (KT_mu h (Or.inl (by omega)))) (fun u hu => pk_some hu)
theorem kt_step {z s : mG} (h : KT z s) : pk (F_X7_stepOn s) (KT z) := by
  unfold F_X7_stepOn
  refine pk_b1 pk_top (fun _ _ => pk_b1 pk_top (fun _ _ => pk_b1 pk_top (fun _ _ => pk_some ?_)))
  exact KT_mu (KT_mu (KT_mu (KT_mu h (Or.inr (by omega))) (Or.inr (by omega))) (Or.inr (by omega))) (Or.inr (by omega))
theorem kt_ref {s : mG} {w : Int32} : pk (F_X7_refuse w s) (fun τ => τ.1 = 0) := by
  rw [V_refuse]; exact pk_some c0e0
theorem kt_refb {z s : mG} {w : Int32} : pk (b2 (F_X7_refuse w s) fun v s => if v = 0 ∨ v = 1 then some (v, s) else none) (KB2 z) := pk_b2 kt_ref (fun _ _ q => pk_pp (pk_some (Or.inl q)))
theorem kt_pass {z s : mG} {w : Int32} (h : KT z s) : pk (F_X7_pass w s) (KB2 z) := by
  unfold F_X7_pass
  exact pk_ite (pk_b1 (kt_step h) (fun u hu => pk_some (Or.inr hu))) kt_refb
theorem kt_emit {z s : mG} {w : Int32} (h : KT z s) : pk (F_X7_emitIfAny w s) (KT z) := by
  unfold F_X7_emitIfAny
  exact pk_ite (pk_some h) (pk_b1 (kt_push h) (fun u hu => pk_some hu))
theorem kt_unit {z s : mG} (h : KT z s) : pk (F_X7_readUnit s) (KB2 z) := by
  have go : ∀ u, KT z u → pk (F_X7_readUnit_68 u) (KB2 z) := fun u hu => by
    unfold F_X7_readUnit_68
    exact pk_b1 (kt_step hu) (fun u hu => pk_some (Or.inr hu))
  unfold F_X7_readUnit F_X7_readUnit_62
  exact pk_ite (pk_b1 (kt_push h) (fun u hu => go u hu)) (pk_ite kt_refb (pk_ite kt_refb (pk_b1 (kt_push h) (fun u hu => go u hu))))
theorem kt_part {z s : mG} (h : KT z s) : pk (F_X7_readPart s) (KB2 z) := by
  unfold F_X7_readPart
  exact pk_ite (pk_ite kt_refb (pk_b1 (kt_push h) (fun u hu => pk_b1 (kt_step hu) (fun u hu => pk_some (Or.inr hu))))) kt_refb
theorem kt_105 {z s : mG} {x1 x2 y : Int32} (h : KT z s) : pk (F_X7_readSum_105 x1 x2 y s) (se (fun v => KT z v.2.2) (KB2 z)) := by
  unfold F_X7_readSum_105
  exact pk_b1 (kt_emit h) (fun u hu => pk_some (show KT z u from hu))
theorem kt_68 {z s : mG} {x1 x2 x3 : Int32} (h : KT z s) : pk (F_X7_readSum_68 x1 x2 x3 s) (se (fun v => KT z v.2.2) (KB2 z)) := by
  have go : ∀ v u, KB2 z (v, u) → pk (if v = 0 then b1 (F_X7_readSum_91 u) fun τ => some (Sum.inr τ) else F_X7_readSum_93 x1 x2 x3 u) (se (fun v => KT z v.2.2) (KB2 z)) := fun v u q => by
    by_cases hv : v = 0
    · rw [if_pos hv]; exact pk_b1r (pk_some (Or.inl c0e0))
    · rw [if_neg hv]
      have hu : KT z u := q.resolve_left hv
      unfold F_X7_readSum_93
      exact pk_ite (kt_105 hu) (kt_105 hu)
  unfold F_X7_readSum_68
  exact pk_ite (pk_b2 (kt_part h) go) (pk_b2 (kt_unit h) go)
theorem kt_51 {z s : mG} {x1 x2 x3 : Int32} (h : KT z s) : pk (F_X7_readSum_51 x1 x2 x3 s) (se (fun v => KT z v.2.2) (KB2 z)) := by
  unfold F_X7_readSum_51 F_X7_readSum_67
  exact pk_b1 (kt_emit h) (fun u hu => pk_ite (kt_68 hu) (kt_68 hu))
theorem kt_sum {z s : mG} (h : KT z s) : pk (F_X7_readSum s) (KB2 z) := by
  unfold F_X7_readSum
  refine pk_b2 (kt_unit h) (fun v u q => ?_)
  by_cases hv : v = 0
  · rw [if_pos hv]; exact pk_some (Or.inl c0e0)
  rw [if_neg hv]
  have hu : KT z u := q.resolve_left hv
  unfold F_X7_readSum_L13
  refine pk_whl (fun v => KT z v.2.2) hu (fun v hv => ?_)
  obtain ⟨x1, x2, w⟩ := v
  have hw : KT z w := hv
  have e114 : pk (F_X7_readSum_114 x1 w) (KB2 z) := by
    unfold F_X7_readSum_114
    exact pk_b1 (kt_emit hw) (fun u hu => pk_some (Or.inr hu))
  unfold F_X7_readSum_B13
  exact pk_ite (pk_b1r e114) (pk_b1 pk_top (fun _ _ => pk_ite (pk_b1r e114) (pk_b1 (kt_step hw) (fun u hu => pk_ite (kt_51 hu) (pk_ite (kt_51 hu) (kt_68 hu))))))
theorem kt_hold {z s : mG} {x : Int32} (h : KT z s) : pk (F_X7_hold x s) (KT z) := by
  unfold F_X7_hold
  refine pk_b1 (P := fun u => u.1 55 = s.1 55) (fun u hu => ?_) (fun u hu => pk_some (KT_mu (KT_row h hu) (Or.inr (by omega))))
  obtain ⟨w, h1, h2, h3⟩ := X11_put_tot (show SH[67]? = some (.inl (0, 64, [])) by decide +kernel) s (s.1 55 7) x
  rw [h1] at hu
  exact Option.some.inj hu ▸ h3 55 (by decide)
theorem kt_opens {z s : mG} (h : KT z s) : pk (F_X7_readOpenings s) (KB2 z) := by
  unfold F_X7_readOpenings F_X7_readOpenings_L2
  refine pk_whl (fun v => KT z v.2) h (fun v hv => ?_)
  obtain ⟨x1, w⟩ := v
  have hw : KT z w := hv
  have e28 : pk (F_X7_readOpenings_28 x1 w) (se (fun v => KT z v.2) (KB2 z)) := by
    unfold F_X7_readOpenings_28
    exact pk_ite (pk_b1 (kt_hold hw) (fun u hu => pk_b1 (kt_step (KT_mu hu (Or.inr (by omega)))) (fun u hu => pk_some (show KT z u from hu)))) (pk_b2 kt_ref (fun _ _ q => pk_pp (pk_some (Or.inl q))))
  unfold F_X7_readOpenings_B2 F_X7_readOpenings_71
  exact pk_ite (pk_b1r (pk_some (Or.inr hw))) (pk_ite e28 (pk_ite e28 (pk_b1r (pk_some (Or.inr hw)))))
theorem kt_close {z s : mG} (h : KT z s) : pk (F_X7_closeNots s) (KT z) := by
  unfold F_X7_closeNots F_X7_closeNots_L2
  refine pk_whl (fun v => KT z v.2) h (fun v hv => ?_)
  obtain ⟨x1, w⟩ := v
  have hw : KT z w := hv
  unfold F_X7_closeNots_B2
  exact pk_ite (pk_some hw) (pk_b1 pk_top (fun _ _ => pk_ite (pk_b1 (kt_push hw) (fun u hu => pk_some (show KT z _ from KT_mu (KT_mu hu (Or.inr (by omega))) (Or.inr (by omega))))) (pk_some hw)))
theorem kt_join {z s : mG} {x : Int32} (h : KT z s) : pk (F_X7_joinWhatWaits x s) (KT z) := by
  unfold F_X7_joinWhatWaits F_X7_joinWhatWaits_L2
  refine pk_whl (fun v => KT z v.2.2) h (fun v hv => ?_)
  obtain ⟨x1, x2, w⟩ := v
  have hw : KT z w := hv
  have e50 : ∀ y, pk (F_X7_joinWhatWaits_50 x1 x2 y w) (se (fun v => KT z v.2.2) (KT z)) := fun y => by
    unfold F_X7_joinWhatWaits_50
    exact pk_b1 (kt_push hw) (fun u hu => pk_some (show KT z _ from KT_mu hu (Or.inr (by omega))))
  have e32 : ∀ y, pk (F_X7_joinWhatWaits_32 x1 x2 y w) (se (fun v => KT z v.2.2) (KT z)) := fun y => by
    unfold F_X7_joinWhatWaits_32
    exact pk_ite (e50 _) (e50 _)
  unfold F_X7_joinWhatWaits_B2
  exact pk_ite (pk_some hw) (pk_b1 pk_top (fun _ _ => pk_ite (e32 _) (pk_ite (pk_ite (e32 _) (pk_some hw)) (pk_some hw))))
theorem kt_closings {z s : mG} (h : KT z s) : pk (F_X7_readClosings s) (KT z) := by
  unfold F_X7_readClosings
  refine pk_b1 (kt_close h) (fun u hu => ?_)
  unfold F_X7_readClosings_L6
  refine pk_whl (fun v => KT z v.2) hu (fun v hv => ?_)
  obtain ⟨x1, w⟩ := v
  have hw : KT z w := hv
  unfold F_X7_readClosings_B6
  exact pk_ite (pk_some hw) (pk_ite (pk_ite (pk_some hw) (pk_b1 (kt_join hw) (fun u hu => pk_b1 (kt_step (KT_mu (KT_mu hu (Or.inr (by omega))) (Or.inr (by omega)))) (fun u hu => pk_b1 (kt_close hu) (fun u hu => pk_some (show KT z u from hu)))))) (pk_some hw))
theorem kt_cond {z s : mG} (h : KT z s) : pk (F_X7_readCondition s) (KB2 z) := by
  unfold F_X7_readCondition F_X7_readCondition_L12
  refine pk_whl (fun v => KT z v.2) (show KT z _ from KT_mu (KT_mu h (Or.inr (by omega))) (Or.inr (by omega))) (fun v hv => ?_)
  obtain ⟨x1, w⟩ := v
  have hw : KT z w := hv
  have e140 : ∀ u, KT z u → pk (F_X7_readCondition_140 x1 u) (se (fun v => KT z v.2) (KB2 z)) := fun u hu => by
    unfold F_X7_readCondition_140
    exact pk_b1 (kt_hold hu) (fun u hu => pk_b1 (kt_step hu) (fun u hu => pk_some (show KT z u from hu)))
  have e96 : ∀ y u, KT z u → pk (F_X7_readCondition_96 x1 y u) (se (fun v => KT z v.2) (KB2 z)) := fun y u hu => by
    unfold F_X7_readCondition_96 F_X7_readCondition_134
    refine pk_b1 (kt_join hu) (fun u hu => pk_ite (e140 u hu) (pk_ite (e140 u hu) (pk_ite (pk_b1r (pk_some (Or.inr hu))) ?_)))
    refine pk_b2 kt_ref (fun v s q => ?_)
    have q : v = 0 := q
    rw [if_pos q]
    exact pk_some (Or.inl c0e0)
  unfold F_X7_readCondition_B12 F_X7_readCondition_33
  refine pk_ite (pk_some (Or.inl c0e0)) (pk_b2 (kt_opens hw) (fun v u q => ?_))
  by_cases hv : v = 0
  · rw [if_pos hv]; exact pk_b1r (pk_some (Or.inl c0e0))
  rw [if_neg hv]
  refine pk_b2 (kt_sum (q.resolve_left hv : KT z u)) (fun v u q => ?_)
  by_cases hv : v = 0
  · rw [if_pos hv]; exact pk_b1r (pk_some (Or.inl c0e0))
  rw [if_neg hv]
  have hu : KT z u := q.resolve_left hv
  refine pk_b1 pk_top (fun y _ => pk_ite (pk_b2 kt_ref (fun _ _ q => pk_pp (pk_some (Or.inl q)))) (pk_b1 (kt_step hu) (fun u hu => pk_b2 (kt_sum hu) (fun v u q => ?_))))
  by_cases hv : v = 0
  · rw [if_pos hv]; exact pk_some (Or.inl c0e0)
  rw [if_neg hv]
  exact pk_b1 (kt_push (q.resolve_left hv : KT z u)) (fun u hu => pk_b1 (kt_closings hu) (fun u hu => pk_ite (e96 _ u hu) (e96 _ u hu)))
theorem kt_add {t : Nat} {z s : mG} (ht : t ≠ 55) (h : KT z s) : pk (F_X10_add t s) (fun τ => KT z τ.2) := by
  unfold F_X10_add
  exact pk_b1 pk_top (fun _ _ => pk_ite (pk_some (KT_mu h (Or.inl ht))) (pk_some h))
theorem kt_law {z s : mG} (h : KT z s) : pk (F_X7_readLaw s) (KB2 z) := by
  have e126 : ∀ x u, KT z u → pk (F_X7_readLaw_126 x u) (KB2 z) := fun x u hu => by
    unfold F_X7_readLaw_126
    exact pk_b1 (kt_put (z := z) (by omega) hu) (fun u hu => pk_b2 (kt_pass hu) (fun v u q => pk_pp (pk_some q)))
  unfold F_X7_readLaw
  refine pk_b1 pk_top (fun _ _ => pk_ite kt_refb (pk_b2 (kt_add (by omega) h) (fun x u hu => pk_ite kt_refb ?_)))
  refine pk_b1 (kt_put (z := z) (by omega) hu) (fun u hu => pk_b1 (kt_put (z := z) (by omega) hu) (fun u hu => pk_b1 (kt_step hu) (fun u hu => pk_b2 (kt_sum hu) (fun v u q => ?_))))
  by_cases hv : v = 0
  · rw [if_pos hv]; exact pk_some (Or.inl c0e0)
  rw [if_neg hv]
  have hu : KT z u := q.resolve_left hv
  refine pk_b1 (kt_put (z := z) (by omega) hu) (fun u hu => pk_ite (pk_b1 (kt_step hu) (fun u hu => pk_b2 (kt_cond hu) (fun v u q => ?_))) (e126 _ u hu))
  by_cases hv : v = 0
  · rw [if_pos hv]; exact pk_some (Or.inl c0e0)
  rw [if_neg hv]
  exact e126 _ u (q.resolve_left hv)
theorem kt_named {t : Nat} {z s : mG} {x lo hi c : Int32} (ht : t + 1 ≠ 55) (h : KT z s) : pk (F_X7_readNamed t x lo hi c s) (KB2 z) := by
  unfold F_X7_readNamed
  refine pk_b2 (kt_pass h) (fun v u q => ?_)
  by_cases hv : v = 0
  · rw [if_pos hv]; exact pk_some (Or.inl c0e0)
  rw [if_neg hv]
  have hu : KT z u := q.resolve_left hv
  exact pk_ite (pk_b1 pk_top (fun _ _ => pk_ite kt_refb (pk_b1 (kt_put (z := z) ht hu) (fun u hu => pk_b1 (kt_step hu) (fun u hu => pk_some (Or.inr hu)))))) kt_refb
theorem kt_head {t : Nat} {z s : mG} {x : Int32} (ht : t ≠ 55) (h : KT z s) : pk (F_X7_readHead t x s) (KB2 z) := by
  unfold F_X7_readHead F_X7_readHead_30
  refine pk_ite (pk_b2 (kt_add ht h) (fun x u hu => pk_ite (pk_b2 kt_ref (fun v s q => ?_)) (pk_some (Or.inr hu)))) kt_refb
  have q : v = 0 := q
  rw [if_pos q]
  exact pk_some (Or.inl c0e0)
theorem kt_sign {z s : mG} (h : KT z s) : pk (F_X7_readSign s) (KB2 z) := by
  unfold F_X7_readSign F_X7_readSign_71
  refine pk_b2 (kt_head (by omega) h) (fun v u q => ?_)
  by_cases hv : v = 0
  · rw [if_pos hv]; exact pk_some (Or.inl c0e0)
  rw [if_neg hv]
  refine pk_b1 (kt_step (q.resolve_left hv : KT z u)) (fun u hu => pk_b2 (kt_named (by omega) hu) (fun v u q => ?_))
  by_cases hv : v = 0
  · rw [if_pos hv]; exact pk_some (Or.inl c0e0)
  rw [if_neg hv]
  refine pk_b2 (kt_named (by omega) (q.resolve_left hv : KT z u)) (fun v u q => ?_)
  by_cases hv : v = 0
  · rw [if_pos hv]; exact pk_some (Or.inl c0e0)
  rw [if_neg hv]
  refine pk_b2 (kt_pass (q.resolve_left hv : KT z u)) (fun v u q => ?_)
  by_cases hv : v = 0
  · rw [if_pos hv]; exact pk_some (Or.inl c0e0)
  rw [if_neg hv]
  exact pk_some (Or.inr (q.resolve_left hv : KT z u))
theorem kt_shift {z s : mG} (h : KT z s) : pk (F_X7_readShift s) (KB2 z) := by
  unfold F_X7_readShift F_X7_readShift_97
  refine pk_b2 (kt_head (by omega) h) (fun v u q => ?_)
  by_cases hv : v = 0
  · rw [if_pos hv]; exact pk_some (Or.inl c0e0)
  rw [if_neg hv]
  refine pk_b2 (kt_named (by omega) (q.resolve_left hv : KT z u)) (fun v u q => ?_)
  by_cases hv : v = 0
  · rw [if_pos hv]; exact pk_some (Or.inl c0e0)
  rw [if_neg hv]
  refine pk_b2 (kt_named (by omega) (q.resolve_left hv : KT z u)) (fun v u q => ?_)
  by_cases hv : v = 0
  · rw [if_pos hv]; exact pk_some (Or.inl c0e0)
  rw [if_neg hv]
  refine pk_b2 (kt_named (by omega) (q.resolve_left hv : KT z u)) (fun v u q => ?_)
  by_cases hv : v = 0
  · rw [if_pos hv]; exact pk_some (Or.inl c0e0)
  rw [if_neg hv]
  refine pk_b2 (kt_named (by omega) (q.resolve_left hv : KT z u)) (fun v u q => ?_)
  by_cases hv : v = 0
  · rw [if_pos hv]; exact pk_some (Or.inl c0e0)
  rw [if_neg hv]
  refine pk_b2 (kt_pass (q.resolve_left hv : KT z u)) (fun v u q => ?_)
  by_cases hv : v = 0
  · rw [if_pos hv]; exact pk_some (Or.inl c0e0)
  rw [if_neg hv]
  exact pk_some (Or.inr (q.resolve_left hv : KT z u))
theorem kt_loop {z s : mG} {k x : Int32} (h : KT z s) : pk (F_X7_readText_L64 k x s) (KB2 z) := by
  unfold F_X7_readText_L64
  refine pk_whl (fun v => KT z v.2.2) h (fun v hv => ?_)
  obtain ⟨x1, x2, w⟩ := v
  have hw : KT z w := hv
  have e106 : ∀ v u, KB2 z (v, u) → pk (F_X7_readText_106 x1 x2 v u) (se (fun v => KT z v.2.2) (KB2 z)) := fun v u q => by
    unfold F_X7_readText_106
    by_cases hv : v = 0
    · rw [if_pos hv]; exact pk_some (Or.inl c0e0)
    · rw [if_neg hv]; exact pk_some (show KT z u from q.resolve_left hv)
  unfold F_X7_readText_B64 F_X7_readText_119
  exact pk_ite (pk_b1r (pk_some (Or.inr hw))) (pk_ite (pk_b1r (pk_some (Or.inr hw))) (pk_ite (pk_b2 (kt_law hw) e106) (pk_ite (pk_b2 (kt_sign hw) e106) (pk_b2 (kt_shift hw) e106))))
end
