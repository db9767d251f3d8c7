noncomputable section
/-! THE CLASS RECKONS ALIKE -/
section CELLS
variable {j n : Nat} {s : mG}
theorem V_cellJ {k : Nat} (hj : SH[j]? = some (.inl (0, n, []))) (hk : k < n) (hn : n < 2147483648) : F_X11_cell j s (cn k) = some (s.1 j k) := by
  have h1 : mal j = some n := by unfold mal; rw [hj]; rfl
  have h4 : mia s j (cn k) = some (s.1 j k) := by
    unfold mia
    rw [hj]
    simp only [if_neg (cn_ix hk hn)]
    rw [cn_nat (by omega)]
  unfold F_X11_cell
  rw [if_neg (cn_nn (by omega)), h1, b1_some, if_neg (fun q => absurd ((cn_le hn (by omega)).mp q) (by omega)), h4, b1_some]
theorem V_cellM {x : Int32} (hx : x < 0) : F_X11_cell j s x = some (ci 0) := by
  unfold F_X11_cell F_X11_cell_20
  rw [if_pos hx]
theorem V_putJ {k : Nat} {v : Int32} (hj : SH[j]? = some (.inl (0, n, []))) (hk : k < n) (hn : n < 2147483648) : F_X11_put j (cn k) v s = some (mu s.1 j k v, s.2) := by
  have h1 : mal j = some n := by unfold mal; rw [hj]; rfl
  unfold F_X11_put
  rw [if_neg (cn_nn (by omega)), h1, b1_some, if_neg (fun q => absurd ((cn_le hn (by omega)).mp q) (by omega)), hj]
  simp only [bs]
  rw [if_neg (cn_ix hk hn), cn_nat (by omega)]
end CELLS
theorem V_joined {s : mG} {a b : Int32} {q : Nat × Nat} (hq : q ∈ OPL) (h30 : q.1 ≠ 30) : F_X3_joined s (cn q.2) a b = some (op2 (cn q.1) a b) := by
  simp only [OPL, List.mem_cons, List.not_mem_nil, or_false] at hq
  rcases hq with e | e | e | e | e | e | e | e | e <;> subst e
  · rfl
  · rfl
  · rfl
  · have e1 : F_X3_joined s (cn 6) a b = if b ≤ a then some (ci 0) else some (ci 1) := rfl
    have e2 : op2 (cn 27) a b = if b ≤ a then ci 0 else ci 1 := rfl
    show F_X3_joined s (cn 6) a b = some (op2 (cn 27) a b)
    rw [e1, e2]; split <;> rfl
  · have e1 : F_X3_joined s (cn 7) a b = if a = b then some (ci 1) else some (ci 0) := rfl
    have e2 : op2 (cn 28) a b = if a = b then ci 1 else ci 0 := rfl
    show F_X3_joined s (cn 7) a b = some (op2 (cn 28) a b)
    rw [e1, e2]; split <;> rfl
  · have e1 : F_X3_joined s (cn 8) a b = if a ≤ b then some (ci 0) else some (ci 1) := rfl
    have e2 : op2 (cn 29) a b = if a ≤ b then ci 0 else ci 1 := rfl
    show F_X3_joined s (cn 8) a b = some (op2 (cn 29) a b)
    rw [e1, e2]; split <;> rfl
  · exact absurd rfl h30
  · rfl
  · rfl
theorem VO_bw {x2 x3 x4 : Int32} {a : mG} : F_X3_valueOf_L5 x2 x3 x4 a = bw (F_X3_valueOf_B5 x2 x3 x4 a) (fun v => F_X3_valueOf_L5 v.1 v.2.1 v.2.2.1 v.2.2.2) := whl_bw _ _
/-- what a step of the class's code is, by the reference's -/
def DCc (X K V : Int32) : Prop := (K.toInt = 0 ∧ X / c16 10000 = ci 0 ∧ rm X (c16 10000) = V) ∨ (∃ j, j < 9 ∧ K = cn (j + 1) ∧ X / c16 10000 = ci 1 ∧ rm X (c16 10000) = cn j) ∨ (K.toInt = 26 ∧ X / c16 10000 = ci 5 ∧ rm X (c16 10000) = V) ∨ (∃ q, q ∈ OPL ∧ K = cn q.1 ∧ X / c16 10000 = cn q.2)
theorem EN_dc {X K V : Int32} (h : EN X K V) : DCc X K V := by
  have c1 : (c16 10000).toInt = 10000 := by decide
  rcases h with ⟨e, e2, h1, h2⟩ | ⟨j, hj, e, e2⟩ | ⟨e, e2, h1, h2⟩ | ⟨q, hq, e, e2⟩
  · subst e; subst e2
    refine Or.inl ⟨by decide, ?_, ?_⟩
    · exact Int32.toInt_inj.mp (by rw [t_div rfl c1 h1 (by decide), show (ci 0).toInt = 0 by decide]; omega)
    · exact Int32.toInt_inj.mp (by rw [t_rm rfl c1 h1 (by decide)]; omega)
  · have t : ∀ j, j < 9 → cn (10000 + j) / c16 10000 = ci 1 ∧ rm (cn (10000 + j)) (c16 10000) = cn j := by decide +kernel
    subst e2
    exact Or.inr (Or.inl ⟨j, hj, e, (t j hj).1, (t j hj).2⟩)
  · subst e
    have ex : X.toInt = 50000 + V.toInt := by rw [e2]; exact r_add (by decide : (ci 50000).toInt = 50000) rfl (by omega) (by omega)
    refine Or.inr (Or.inr (Or.inl ⟨by decide, ?_, ?_⟩))
    · exact Int32.toInt_inj.mp (by rw [t_div ex c1 (by omega) (by decide), show (ci 5).toInt = 5 by decide]; omega)
    · exact Int32.toInt_inj.mp (by rw [t_rm ex c1 (by omega) (by decide)]; omega)
  · subst e2
    refine Or.inr (Or.inr (Or.inr ⟨q, hq, e, ?_⟩))
    have t : ∀ q ∈ OPL, cn (q.2 * 10000) / c16 10000 = cn q.2 := by decide +kernel
    exact t q hq
theorem al_9 : m_alen (8 + 1) = 400 := by decide +kernel
theorem V_valueOf {f w : Nat → Int32} {z : mG} {nc : Nat} (hf : ∀ j, j < 9 → z.1 69 j = f (j + 1)) (h1 : z.1 8 1 = cn 1) (h3 : z.1 8 3 = cn nc) (hnc : nc ≤ 400) (hE : ∀ j, j < nc → EN (z.1 9 j) (w (1050 + 2 * j)) (w (1050 + 2 * j + 1))) : ∀ (n k : Nat) (st : List Int32) (ts ts' : List Bool) (a : mG), k + n ≤ nc → Rt (fun j => w (1050 + j)) k n ts ts' → tyd ts st → SKr (a.1 70) st → ts.length ≤ 64 → (∀ j, j ≠ 70 → a.1 j = z.1 j) → pk (F_X3_valueOf_L5 (cn (k + n)) (cn st.length) (cn k) a) (fun τ => τ.1 = (evs (fun j => w (1050 + j)) f k n st).headD (ci 0) ∧ ∀ j, j ≠ 70 → τ.2.1 j = z.1 j) := by
  intro n
  induction n with
  | zero =>
    intro k st ts ts' a hk hR ht hS hl hz
    rw [VO_bw]
    refine pk_bw ?_
    unfold F_X3_valueOf_B5
    rw [if_pos ((cn_le (by omega) (by omega)).mpr (by omega))]
    have hlen := tyd_len ht
    cases st with
    | nil =>
      rw [V_cellM (by decide), b1_some]
      exact pk_some ⟨rfl, hz⟩
    | cons x r =>
      have hr : r.length < 64 := by simp at hlen; omega
      rw [show cn (x :: r).length - ci 1 = cn r.length from cn_d1 (n := r.length) (by omega), V_cellJ sh70 hr (by decide), b1_some]
      exact pk_some ⟨hS.1, hz⟩
  | succ n ih =>
    intro k st ts ts' a hk hR ht hS hl hz
    obtain ⟨m, hm, hR⟩ := hR
    dsimp only at hm
    have hlen := tyd_len ht
    have hat : F_X10_at 8 a (cn k) (ci 0) = some (z.1 9 k) := by
      have q := V_at (t := 8) (s := a) (a1 := cn k) (a2 := ci 0) (r := k) (c := 0) (n := nc) (W := 1) rfl rfl (by rw [hz 8 (by decide)]; exact h1) (by rw [hz 8 (by decide)]; exact h3) (by omega) (by decide) (by rw [al_9]; omega) (by omega)
      rw [q, hz (8 + 1) (by decide), Nat.mul_one]
      rfl
    have hd := EN_dc (hE k (by omega))
    rw [VO_bw]
    refine pk_bw ?_
    unfold F_X3_valueOf_B5
    rw [if_neg (fun q => absurd ((cn_le (by omega) (by omega)).mp q) (by omega)), hat, b1_some, b1_some]
    rw [show 1050 + 2 * k + 1 = 1050 + (2 * k + 1) by omega] at hd
    generalize hX : z.1 9 k = X at *
    generalize hK : w (1050 + 2 * k) = K at *
    generalize hV : w (1050 + (2 * k + 1)) = V at *
    have go : ∀ (b2 : mG) (x3 : Int32), x3 = cn (ev1 f K V st).length → SKr (b2.1 70) (ev1 f K V st) → (∀ j, j ≠ 70 → b2.1 j = a.1 j) → pk (F_X3_valueOf_L5 (cn (k + (n + 1))) x3 (cn k + ci 1) b2) (fun τ => τ.1 = (evs (fun j => w (1050 + j)) f k (n + 1) st).headD (ci 0) ∧ ∀ j, j ≠ 70 → τ.2.1 j = z.1 j) := by
      intro b2 x3 e4 hS2 hb2
      have q := ih (k + 1) (ev1 f K V st) m ts' b2 (by omega) hR (ev1_ty hm ht) hS2 (Rt_len 1 0 ts m (c := fun j => if j = 0 then K else V) ⟨m, hm, rfl⟩ hl) (fun j hj => (hb2 j hj).trans (hz j hj))
      rw [show k + 1 + n = k + (n + 1) by omega, ← e4, ← cnu (a := k) (by omega)] at q
      have e : evs (fun j => w (1050 + j)) f k (n + 1) st = evs (fun j => w (1050 + j)) f (k + 1) n (ev1 f K V st) := by
        show evs (fun j => w (1050 + j)) f (k + 1) n (ev1 f (w (1050 + 2 * k)) (w (1050 + (2 * k + 1))) st) = _
        rw [hK, hV]
      rw [e]
      exact q
    have top : ∃ t, F_X11_cell 70 a (cn st.length - ci 1) = some t ∧ ∀ x r, st = x :: r → t = x := by
      cases st with
      | nil => exact ⟨ci 0, V_cellM (by decide), fun x r e => by cases e⟩
      | cons y q =>
        have hr : q.length < 64 := by simp at hlen; omega
        refine ⟨y, ?_, fun x r e => (List.cons.inj e).1⟩
        rw [show cn (y :: q).length - ci 1 = cn q.length from cn_d1 (n := q.length) (by omega), V_cellJ sh70 hr (by decide)]
        exact congrArg some hS.1
    obtain ⟨t, et, ht2⟩ := top
    rw [et, b1_some]
    unfold F_X3_valueOf_199 F_X3_valueOf_176 F_X3_valueOf_229
    rcases hd with ⟨eK, eD, eM⟩ | ⟨j, hj, eK, eD, eM⟩ | ⟨eK, eD, eM⟩ | ⟨q, hq, eK, eD⟩
    · rw [eD, if_pos rfl, eM]
      rcases stpT_cases hm with ⟨g1, g2, g3, g4, _⟩ | ⟨g1, _⟩ | ⟨g1, _⟩ | ⟨g1, _⟩
      · rw [V_putJ sh70 (by omega : st.length < 64) (by decide), b1_some]
        refine pk_some (go _ _ ?_ ?_ (fun j hj => mu_row hj))
        · rw [ev1_push g1, cnu (by omega)]; rfl
        · rw [ev1_push g1, if_pos (Int32.toInt_inj.mp (by rw [eK, t_zero]))]
          exact SKr_mu hS
      all_goals omega
    · rw [eD, if_neg (by decide), if_pos rfl, eM, V_cellJ sh69 hj (by decide), b1_some]
      have eK2 : K.toInt = (j : Int) + 1 := by rw [eK, t_cn (by omega)]; omega
      rcases stpT_cases hm with ⟨g1, g2, g3, g4, _⟩ | ⟨g1, _⟩ | ⟨g1, _⟩ | ⟨g1, _⟩
      · rw [V_putJ sh70 (by omega : st.length < 64) (by decide), b1_some]
        refine pk_some (go _ _ ?_ ?_ (fun j hj => mu_row hj))
        · rw [ev1_push g1, cnu (by omega)]; rfl
        · have n0 : ¬ K = 0 := fun e => by rw [e, t_zero] at eK2; omega
          rw [ev1_push g1, if_neg n0, hz 69 (by decide), hf j hj, show K.toNatClampNeg = j + 1 by rw [t_nat, eK2]; omega]
          exact SKr_mu hS
      all_goals omega
    · rw [eD, if_neg (by decide), if_neg (by decide), if_neg (by decide), if_neg (by decide), if_neg (by decide), if_pos rfl, eM]
      rcases stpT_cases hm with ⟨g1, _⟩ | ⟨g1, g2, x, r, e1, _⟩ | ⟨g1, _⟩ | ⟨g1, g2, _⟩
      · omega
      · subst e1
        obtain ⟨y, q, e2, _, _⟩ := tyd_1 ht
        subst e2
        have hr : q.length < 64 := by simp at hlen hl; omega
        rw [if_neg g2, if_neg g2, show cn (y :: q).length - ci 1 = cn q.length from cn_d1 (n := q.length) (by omega), V_putJ sh70 hr (by decide), b1_some, ht2 y q rfl]
        refine pk_some (go _ _ ?_ ?_ (fun j hj => mu_row hj))
        · rw [ev1_part g1]; rfl
        · rw [ev1_part g1]
          exact SKr_mu hS.2
      · omega
      · exact absurd eK g2
    · rw [eD]
      have q30 : ∀ q ∈ OPL, 23 ≤ q.1 ∧ q.1 ≠ 26 ∧ q.1 < 100 ∧ (q.1 = 30 ↔ q.2 = 9) := by decide
      obtain ⟨b1', b2', b3', b4'⟩ := q30 q hq
      have eK2 : K.toInt = (q.1 : Int) := by rw [eK, t_cn (by omega)]
      by_cases h30 : q.1 = 30
      · rw [show q.2 = 9 from b4'.mp h30, show cn 9 = ci 9 from rfl, if_neg (by decide), if_neg (by decide), if_neg (by decide), if_neg (by decide), if_neg (by decide), if_neg (by decide), if_neg (by decide), if_neg (by decide), if_neg (by decide), if_pos rfl]
        rcases stpT_cases hm with ⟨g1, _⟩ | ⟨g1, _⟩ | ⟨g1, x, r, e1, _⟩ | ⟨g1, g2, g3, _⟩
        · omega
        · omega
        · subst e1
          obtain ⟨y, q, e2, _, _⟩ := tyd_1 ht
          subst e2
          have hr : q.length < 64 := by simp at hlen hl; omega
          rw [show cn (y :: q).length - ci 1 = cn q.length from cn_d1 (n := q.length) (by omega), V_putJ sh70 hr (by decide), b1_some, ht2 y q rfl]
          refine pk_some (go _ _ ?_ ?_ (fun j hj => mu_row hj))
          · rw [ev1_not g1]; rfl
          · rw [ev1_not g1]
            exact SKr_mu hS.2
        · omega
      · have dsp : ∀ (A B C D E F G H I J L : Option ((Int32 × Int32 × Int32 × mG) ⊕ (Int32 × mG))), C = L → D = L → E = L → G = L → H = L → I = L → (if cn q.2 = ci 0 then A else if cn q.2 = ci 1 then B else if cn q.2 = ci 2 then C else if cn q.2 = ci 3 then D else if cn q.2 = ci 4 then E else if cn q.2 = ci 5 then F else if cn q.2 = ci 6 then G else if cn q.2 = ci 7 then H else if cn q.2 = ci 8 then I else if cn q.2 = ci 9 then J else L) = L := by
          intro A B C D E F G H I J L hC hD hE hG hH hI
          have hq2 := hq
          simp only [OPL, List.mem_cons, List.not_mem_nil, or_false] at hq2
          rcases hq2 with e | e | e | e | e | e | e | e | e <;> subst e
          · exact hC
          · exact hD
          · exact hE
          · exact hG
          · exact hH
          · exact hI
          · exact absurd rfl h30
          · rfl
          · rfl
        rw [dsp _ _ _ _ _ _ _ _ _ _ _ rfl rfl rfl rfl rfl rfl]
        rcases stpT_cases hm with ⟨g1, _⟩ | ⟨g1, _⟩ | ⟨g1, _⟩ | ⟨g1, g2, g3, x, y, r, e1, _⟩
        · omega
        · omega
        · omega
        · subst e1
          obtain ⟨u, p, e2, _, t2⟩ := tyd_1 ht
          subst e2
          obtain ⟨u2, p2, e2, _, _⟩ := tyd_1 t2
          subst e2
          have hr : p2.length < 63 := by simp at hlen hl; omega
          rw [show cn (u :: u2 :: p2).length + ci (-1) = cn (p2.length + 1) from cn_d2 (n := p2.length + 1) (by omega), show cn (p2.length + 1) - ci 1 = cn p2.length from cn_d1 (by omega), V_cellJ sh70 (by omega : p2.length < 64) (by decide), b1_some, V_joined hq h30, b1_some, V_putJ sh70 (by omega : p2.length < 64) (by decide), b1_some, ht2 u (u2 :: p2) rfl, ← eK]
          refine pk_some (go _ _ ?_ ?_ (fun j hj => mu_row hj))
          · rw [ev1_bin g1 g2 g3]
            show cn (p2.length + 1) = cn (p2.length + 1)
            rfl
          · rw [ev1_bin g1 g2 g3, show a.1 70 p2.length = u2 from hS.2.1]
            exact SKr_mu hS.2.2
end
