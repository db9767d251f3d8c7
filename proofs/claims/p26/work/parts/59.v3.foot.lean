noncomputable section
theorem W_X12_product_29 {M : Nat} {z : mG} {s : mG} (hM : sub 10213005324104387267917774848 M) (h : KB M z s) : pk (F_X12_product_29 s) (se (fun τ => KB M z τ) (fun τ => KB M z τ.2)) := by
  unfold F_X12_product_29
  refine pk_ite ?_ ?_
  · exact (W_X12_product_44 (sub_tr (by decide +kernel) hM) h)
  · exact (W_X12_product_44 (sub_tr (by decide +kernel) hM) h)
theorem W_X12_product_B9 {M : Nat} {z : mG} {s : mG} (hM : sub 10213005324104387267917774848 M) (h : KB M z s) : pk (F_X12_product_B9 s) (se (fun τ => KB M z τ) (fun τ => KB M z τ.2)) := by
  unfold F_X12_product_B9
  refine pk_ite ?_ ?_
  · exact (W_X12_product_29 (sub_tr (by decide +kernel) hM) h)
  · refine pk_ite ?_ ?_
    · exact (W_X12_product_29 (sub_tr (by decide +kernel) hM) h)
    · exact pk_some h
theorem W_X12_product_L9 {M : Nat} {z : mG} {s : mG} (hM : sub 10213005324104387267917774848 M) (h : KB M z s) : pk (F_X12_product_L9 s) (fun τ => KB M z τ.2) := by
  unfold F_X12_product_L9
  refine pk_whl (fun v => KB M z v) h (fun v hv => ?_)
  exact W_X12_product_B9 (sub_tr (by decide +kernel) hM) hv
theorem W_X12_product {M : Nat} {z : mG} {s : mG} (hM : sub 10213005324104387267917774848 M) (h : KB M z s) : pk (F_X12_product s) (fun τ => KB M z τ.2) := by
  unfold F_X12_product
  refine pk_b2 (W_X12_unit (sub_tr (by decide +kernel) hM) h) (fun _ s_1 (h_2 : KB M z s_1) => ?_)
  refine pk_ite ?_ ?_
  · exact pk_some h_2
  · exact (W_X12_product_L9 (sub_tr (by decide +kernel) hM) h_2)
theorem W_X12_sumUp_46 {M : Nat} {z : mG} {y0 : Int32} {s : mG} (hM : sub 10213005324104387267917774848 M) (h : KB M z s) : pk (F_X12_sumUp_46 y0 s) (se (fun τ => KB M z τ) (fun τ => KB M z τ.2)) := by
  unfold F_X12_sumUp_46
  refine pk_b1 (W_X12_next0 (sub_tr (by decide +kernel) hM) h) (fun s_1 (h_2 : KB M z s_1) => ?_)
  refine pk_b2 (W_X12_product (sub_tr (by decide +kernel) hM) h_2) (fun _ s_3 (h_4 : KB M z s_3) => ?_)
  refine pk_ite ?_ ?_
  · exact pk_some h_4
  · refine pk_b1 (W_X12_lay (sub_tr (by decide +kernel) hM) h_4) (fun s_5 (h_6 : KB M z s_5) => ?_)
    exact pk_some h_6
theorem W_X12_sumUp_29 {M : Nat} {z : mG} {s : mG} (hM : sub 10213005324104387267917774848 M) (h : KB M z s) : pk (F_X12_sumUp_29 s) (se (fun τ => KB M z τ) (fun τ => KB M z τ.2)) := by
  unfold F_X12_sumUp_29
  refine pk_ite ?_ ?_
  · exact (W_X12_sumUp_46 (sub_tr (by decide +kernel) hM) h)
  · exact (W_X12_sumUp_46 (sub_tr (by decide +kernel) hM) h)
theorem W_X12_sumUp_B9 {M : Nat} {z : mG} {s : mG} (hM : sub 10213005324104387267917774848 M) (h : KB M z s) : pk (F_X12_sumUp_B9 s) (se (fun τ => KB M z τ) (fun τ => KB M z τ.2)) := by
  unfold F_X12_sumUp_B9
  refine pk_ite ?_ ?_
  · exact (W_X12_sumUp_29 (sub_tr (by decide +kernel) hM) h)
  · refine pk_ite ?_ ?_
    · exact (W_X12_sumUp_29 (sub_tr (by decide +kernel) hM) h)
    · exact pk_some h
theorem W_X12_sumUp_L9 {M : Nat} {z : mG} {s : mG} (hM : sub 10213005324104387267917774848 M) (h : KB M z s) : pk (F_X12_sumUp_L9 s) (fun τ => KB M z τ.2) := by
  unfold F_X12_sumUp_L9
  refine pk_whl (fun v => KB M z v) h (fun v hv => ?_)
  exact W_X12_sumUp_B9 (sub_tr (by decide +kernel) hM) hv
theorem W_X12_sumUp {M : Nat} {z : mG} {s : mG} (hM : sub 10213005324104387267917774848 M) (h : KB M z s) : pk (F_X12_sumUp s) (fun τ => KB M z τ.2) := by
  unfold F_X12_sumUp
  refine pk_b2 (W_X12_product (sub_tr (by decide +kernel) hM) h) (fun _ s_1 (h_2 : KB M z s_1) => ?_)
  refine pk_ite ?_ ?_
  · exact pk_some h_2
  · exact (W_X12_sumUp_L9 (sub_tr (by decide +kernel) hM) h_2)
theorem W_X12_every_B9 {M : Nat} {z : mG} {rec : mG → Option (Int32 × mG)} {s : mG} (hM : sub 10213005324104387267917774848 M) (hrec : ∀ (r : mG), KB M z r → pk (rec r) (fun τ => KB M z τ.2)) (h : KB M z s) : pk (F_X12_every_B9 rec s) (se (fun τ => KB M z τ) (fun τ => KB M z τ.2)) := by
  unfold F_X12_every_B9
  refine pk_ite ?_ ?_
  · refine pk_b1 (W_X12_next0 (sub_tr (by decide +kernel) hM) h) (fun s_1 (h_2 : KB M z s_1) => ?_)
    refine pk_b2 (hrec _ h_2) (fun _ s_3 (h_4 : KB M z s_3) => ?_)
    refine pk_ite ?_ ?_
    · exact pk_some h_4
    · refine pk_b1 (W_X12_lay (sub_tr (by decide +kernel) hM) h_4) (fun s_5 (h_6 : KB M z s_5) => ?_)
      exact pk_some h_6
  · exact pk_some h
theorem W_X12_every_L9 {M : Nat} {z : mG} {rec : mG → Option (Int32 × mG)} {s : mG} (hM : sub 10213005324104387267917774848 M) (hrec : ∀ (r : mG), KB M z r → pk (rec r) (fun τ => KB M z τ.2)) (h : KB M z s) : pk (F_X12_every_L9 rec s) (fun τ => KB M z τ.2) := by
  unfold F_X12_every_L9
  refine pk_whl (fun v => KB M z v) h (fun v hv => ?_)
  exact W_X12_every_B9 (sub_tr (by decide +kernel) hM) hrec hv
theorem W_X12_every {M : Nat} {z : mG} {rec : mG → Option (Int32 × mG)} {s : mG} (hM : sub 10213005324104387267917774848 M) (hrec : ∀ (r : mG), KB M z r → pk (rec r) (fun τ => KB M z τ.2)) (h : KB M z s) : pk (F_X12_every rec s) (fun τ => KB M z τ.2) := by
  unfold F_X12_every
  refine pk_b2 (hrec _ h) (fun _ s_1 (h_2 : KB M z s_1) => ?_)
  refine pk_ite ?_ ?_
  · exact pk_some h_2
  · exact (W_X12_every_L9 (sub_tr (by decide +kernel) hM) hrec h_2)
theorem W_X12_any_B9 {M : Nat} {z : mG} {rec : mG → Option (Int32 × mG)} {s : mG} (hM : sub 10213005324104387267917774848 M) (hrec : ∀ (r : mG), KB M z r → pk (rec r) (fun τ => KB M z τ.2)) (h : KB M z s) : pk (F_X12_any_B9 rec s) (se (fun τ => KB M z τ) (fun τ => KB M z τ.2)) := by
  unfold F_X12_any_B9
  refine pk_ite ?_ ?_
  · refine pk_b1 (W_X12_next0 (sub_tr (by decide +kernel) hM) h) (fun s_1 (h_2 : KB M z s_1) => ?_)
    refine pk_b2 (W_X12_every (sub_tr (by decide +kernel) hM) hrec h_2) (fun _ s_3 (h_4 : KB M z s_3) => ?_)
    refine pk_ite ?_ ?_
    · exact pk_some h_4
    · refine pk_b1 (W_X12_lay (sub_tr (by decide +kernel) hM) h_4) (fun s_5 (h_6 : KB M z s_5) => ?_)
      exact pk_some h_6
  · exact pk_some h
theorem W_X12_any_L9 {M : Nat} {z : mG} {rec : mG → Option (Int32 × mG)} {s : mG} (hM : sub 10213005324104387267917774848 M) (hrec : ∀ (r : mG), KB M z r → pk (rec r) (fun τ => KB M z τ.2)) (h : KB M z s) : pk (F_X12_any_L9 rec s) (fun τ => KB M z τ.2) := by
  unfold F_X12_any_L9
  refine pk_whl (fun v => KB M z v) h (fun v hv => ?_)
  exact W_X12_any_B9 (sub_tr (by decide +kernel) hM) hrec hv
theorem W_X12_any {M : Nat} {z : mG} {rec : mG → Option (Int32 × mG)} {s : mG} (hM : sub 10213005324104387267917774848 M) (hrec : ∀ (r : mG), KB M z r → pk (rec r) (fun τ => KB M z τ.2)) (h : KB M z s) : pk (F_X12_any rec s) (fun τ => KB M z τ.2) := by
  unfold F_X12_any
  refine pk_b2 (W_X12_every (sub_tr (by decide +kernel) hM) hrec h) (fun _ s_1 (h_2 : KB M z s_1) => ?_)
  refine pk_ite ?_ ?_
  · exact pk_some h_2
  · exact (W_X12_any_L9 (sub_tr (by decide +kernel) hM) hrec h_2)
theorem W_X12_oneTest_23 {M : Nat} {z : mG} {rec : mG → Option (Int32 × mG)} {s : mG} (hM : sub 0 M) (hrec : ∀ (r : mG), KB M z r → pk (rec r) (fun τ => KB M z τ.2)) (h : KB M z s) : pk (F_X12_oneTest_23 rec s) (fun τ => KB M z τ.2) := by
  unfold F_X12_oneTest_23
  exact pk_some h
theorem W_X12_oneTest_78 {M : Nat} {z : mG} {rec : mG → Option (Int32 × mG)} {s : mG} (hM : sub 0 M) (hrec : ∀ (r : mG), KB M z r → pk (rec r) (fun τ => KB M z τ.2)) (h : KB M z s) : pk (F_X12_oneTest_78 rec s) (fun τ => KB M z τ.2) := by
  unfold F_X12_oneTest_78
  exact pk_some h
theorem W_X12_oneTest_147 {M : Nat} {z : mG} {rec : mG → Option (Int32 × mG)} {y0 : Int32} {s : mG} (hM : sub 10213005324104387267917774848 M) (hrec : ∀ (r : mG), KB M z r → pk (rec r) (fun τ => KB M z τ.2)) (h : KB M z s) : pk (F_X12_oneTest_147 rec y0 s) (fun τ => KB M z τ.2) := by
  unfold F_X12_oneTest_147
  refine pk_ite ?_ ?_
  · refine pk_b2 (W_X12_bad (sub_tr (by decide +kernel) hM) h) (fun _ s_1 (h_2 : KB M z s_1) => ?_)
    refine pk_pp ?_
    exact pk_some h_2
  · refine pk_b1 (W_X12_next0 (sub_tr (by decide +kernel) hM) h) (fun s_3 (h_4 : KB M z s_3) => ?_)
    refine pk_b2 (W_X12_sumUp (sub_tr (by decide +kernel) hM) h_4) (fun _ s_5 (h_6 : KB M z s_5) => ?_)
    refine pk_ite ?_ ?_
    · exact pk_some h_6
    · refine pk_b1 (W_X12_lay (sub_tr (by decide +kernel) hM) h_6) (fun s_7 (h_8 : KB M z s_7) => ?_)
      exact pk_some h_8
theorem W_X12_oneTest {M : Nat} {z : mG} {rec : mG → Option (Int32 × mG)} {s : mG} (hM : sub 10213005324104387267917774848 M) (hrec : ∀ (r : mG), KB M z r → pk (rec r) (fun τ => KB M z τ.2)) (h : KB M z s) : pk (F_X12_oneTest rec s) (fun τ => KB M z τ.2) := by
  unfold F_X12_oneTest
  refine pk_ite ?_ ?_
  · refine pk_b2 (W_X12_opens (sub_tr (by decide +kernel) hM) h) (fun _ s_1 (h_2 : KB M z s_1) => ?_)
    refine pk_ite ?_ ?_
    · exact (W_X12_oneTest_23 (sub_tr (by decide +kernel) hM) hrec h_2)
    · refine pk_b2 (hrec _ h_2) (fun _ s_3 (h_4 : KB M z s_3) => ?_)
      refine pk_ite ?_ ?_
      · exact (W_X12_oneTest_23 (sub_tr (by decide +kernel) hM) hrec h_4)
      · extract_lets +onlyGivenNames s_5
        have h_6 : KB M z s_5 := KB_mu h_4 (hM 88 (by decide +kernel))
        clear_value s_5
        refine pk_b1 (W_X12_lay (sub_tr (by decide +kernel) hM) h_6) (fun s_7 (h_8 : KB M z s_7) => ?_)
        exact pk_some h_8
  · refine pk_ite ?_ ?_
    · refine pk_b2 (W_X12_opens (sub_tr (by decide +kernel) hM) h) (fun _ s_9 (h_10 : KB M z s_9) => ?_)
      refine pk_ite ?_ ?_
      · exact (W_X12_oneTest_78 (sub_tr (by decide +kernel) hM) hrec h_10)
      · refine pk_b2 (W_X12_any (sub_tr (by decide +kernel) hM) hrec h_10) (fun _ s_11 (h_12 : KB M z s_11) => ?_)
        refine pk_ite ?_ ?_
        · exact (W_X12_oneTest_78 (sub_tr (by decide +kernel) hM) hrec h_12)
        · refine pk_b2 (W_X12_need (sub_tr (by decide +kernel) hM) h_12) (fun _ s_13 (h_14 : KB M z s_13) => ?_)
          refine pk_ite ?_ ?_
          · exact (W_X12_oneTest_78 (sub_tr (by decide +kernel) hM) hrec h_14)
          · extract_lets +onlyGivenNames s_15
            have h_16 : KB M z s_15 := KB_mu h_14 (hM 88 (by decide +kernel))
            clear_value s_15
            exact pk_some h_16
    · refine pk_b2 (W_X12_sumUp (sub_tr (by decide +kernel) hM) h) (fun _ s_17 (h_18 : KB M z s_17) => ?_)
      refine pk_ite ?_ ?_
      · exact pk_some h_18
      · refine pk_ite ?_ ?_
        · exact (W_X12_oneTest_147 (sub_tr (by decide +kernel) hM) hrec h_18)
        · refine pk_ite ?_ ?_
          · exact (W_X12_oneTest_147 (sub_tr (by decide +kernel) hM) hrec h_18)
          · refine pk_ite ?_ ?_
            · exact (W_X12_oneTest_147 (sub_tr (by decide +kernel) hM) hrec h_18)
            · exact (W_X12_oneTest_147 (sub_tr (by decide +kernel) hM) hrec h_18)
theorem W_Q_X12_oneTest {M : Nat} {z : mG} (hM : sub 10213005324104387267917774848 M) : ∀ (n : Nat) (s : mG), KB M z s → pk (Q_X12_oneTest n s) (fun τ => KB M z τ.2)
  | 0, _, _ => pk_none
  | n + 1, _, h => W_X12_oneTest (sub_tr (by decide +kernel) hM) (fun s h => W_Q_X12_oneTest hM n s h) h
theorem W_R_X12_oneTest {M : Nat} {z : mG} {s : mG} (hM : sub 10213005324104387267917774848 M) (h : KB M z s) : pk (R_X12_oneTest s) (fun τ => KB M z τ.2) := W_Q_X12_oneTest hM 9 s h
theorem W_X12_aLine_123 {M : Nat} {z : mG} {s : mG} (hM : sub 5261245166962866168321277952 M) (h : KB M z s) : pk (F_X12_aLine_123 s) (fun τ => KB M z τ.2) := by
  unfold F_X12_aLine_123
  refine pk_nn ?_
  extract_lets +onlyGivenNames s_1
  have h_2 : KB M z s_1 := KB_mu h (hM 92 (by decide +kernel))
  clear_value s_1
  refine pk_b2 (W_X12_need (sub_tr (by decide +kernel) hM) h_2) (fun _ s_3 (h_4 : KB M z s_3) => ?_)
  refine pk_pp ?_
  exact pk_some h_4
theorem W_X12_aLine {M : Nat} {z : mG} {s : mG} (hM : sub 15164765481245908367514271744 M) (h : KB M z s) : pk (F_X12_aLine s) (fun τ => KB M z τ.2) := by
  unfold F_X12_aLine
  refine pk_b1 pk_top (fun _ _ => ?_)
  refine pk_ite ?_ ?_
  · refine pk_b2 (W_X12_bad (sub_tr (by decide +kernel) hM) h) (fun _ s_1 (h_2 : KB M z s_1) => ?_)
    refine pk_pp ?_
    exact pk_some h_2
  · refine pk_ite ?_ ?_
    · refine pk_b2 (W_X12_bad (sub_tr (by decide +kernel) hM) h) (fun _ s_3 (h_4 : KB M z s_3) => ?_)
      refine pk_pp ?_
      exact pk_some h_4
    · extract_lets +onlyGivenNames s_5
      have h_6 : KB M z s_5 := KB_mu h (hM 88 (by decide +kernel))
      clear_value s_5
      refine pk_nn ?_
      extract_lets +onlyGivenNames s_7
      have h_8 : KB M z s_7 := KB_mu h_6 (hM 92 (by decide +kernel))
      clear_value s_7
      refine pk_b1 (W_X12_next0 (sub_tr (by decide +kernel) hM) h_8) (fun s_9 (h_10 : KB M z s_9) => ?_)
      refine pk_nn ?_
      extract_lets +onlyGivenNames s_11
      have h_12 : KB M z s_11 := KB_mu h_10 (hM 92 (by decide +kernel))
      clear_value s_11
      refine pk_b2 (W_X12_sumUp (sub_tr (by decide +kernel) hM) h_12) (fun _ s_13 (h_14 : KB M z s_13) => ?_)
      refine pk_ite ?_ ?_
      · exact pk_some h_14
      · refine pk_nn ?_
        extract_lets +onlyGivenNames s_15
        have h_16 : KB M z s_15 := KB_mu h_14 (hM 92 (by decide +kernel))
        clear_value s_15
        refine pk_ite ?_ ?_
        · refine pk_b1 (W_X12_next0 (sub_tr (by decide +kernel) hM) h_16) (fun s_17 (h_18 : KB M z s_17) => ?_)
          refine pk_b2 (W_X12_any (sub_tr (by decide +kernel) hM) (fun _ h => W_R_X12_oneTest (sub_tr (by decide +kernel) hM) h) h_18) (fun _ s_19 (h_20 : KB M z s_19) => ?_)
          refine pk_ite ?_ ?_
          · exact pk_some h_20
          · exact (W_X12_aLine_123 (sub_tr (by decide +kernel) hM) h_20)
        · exact (W_X12_aLine_123 (sub_tr (by decide +kernel) hM) h_16)
theorem W_X12_readsLaw_49 {M : Nat} {z : mG} {x1 : Int32} {s : mG} (hM : sub 0 M) (h : KB M z s) : pk (F_X12_readsLaw_49 x1 s) (fun τ => KB M z τ.2) := by
  unfold F_X12_readsLaw_49
  refine pk_pp ?_
  exact pk_some h
theorem W_X12_readsLaw_42 {M : Nat} {z : mG} {x1 : Int32} {y1 : Int32} {y2 : Int32} {s : mG} (hM : sub 309485009821345068724781056 M) (h : KB M z s) : pk (F_X12_readsLaw_42 x1 y1 y2 s) (se (fun τ => KB M z τ.2) (fun τ => KB M z τ.2)) := by
  unfold F_X12_readsLaw_42
  extract_lets +onlyGivenNames s_1
  have h_2 : KB M z s_1 := KB_mu h (hM 88 (by decide +kernel))
  clear_value s_1
  exact pk_some h_2
theorem W_X12_readsLaw_B12 {M : Nat} {z : mG} {x1 : Int32} {s : mG} (hM : sub 15164765481245908367514271744 M) (h : KB M z s) : pk (F_X12_readsLaw_B12 x1 s) (se (fun τ => KB M z τ.2) (fun τ => KB M z τ.2)) := by
  unfold F_X12_readsLaw_B12
  refine pk_ite ?_ ?_
  · refine pk_b1r ?_
    exact (W_X12_readsLaw_49 (sub_tr (by decide +kernel) hM) h)
  · refine pk_ite ?_ ?_
    · refine pk_b1r ?_
      exact (W_X12_readsLaw_49 (sub_tr (by decide +kernel) hM) h)
    · refine pk_b2 (W_X12_aLine (sub_tr (by decide +kernel) hM) h) (fun _ s_1 (h_2 : KB M z s_1) => ?_)
      refine pk_ite ?_ ?_
      · exact (W_X12_readsLaw_42 (sub_tr (by decide +kernel) hM) h_2)
      · exact (W_X12_readsLaw_42 (sub_tr (by decide +kernel) hM) h_2)
theorem W_X12_readsLaw_L12 {M : Nat} {z : mG} {x1 : Int32} {s : mG} (hM : sub 15164765481245908367514271744 M) (h : KB M z s) : pk (F_X12_readsLaw_L12 x1 s) (fun τ => KB M z τ.2) := by
  unfold F_X12_readsLaw_L12
  refine pk_whl (fun v => KB M z v.2) h (fun v hv => ?_)
  obtain ⟨y0, y1⟩ := v
  exact W_X12_readsLaw_B12 (sub_tr (by decide +kernel) hM) hv
theorem W_X12_readsLaw {M : Nat} {z : mG} {s : mG} (hM : sub 15164765481245908367514271744 M) (h : KB M z s) : pk (F_X12_readsLaw s) (fun τ => KB M z τ.2) := by
  unfold F_X12_readsLaw
  extract_lets +onlyGivenNames s_1
  have h_2 : KB M z s_1 := KB_mu h (hM 88 (by decide +kernel))
  clear_value s_1
  extract_lets +onlyGivenNames s_3
  have h_4 : KB M z s_3 := KB_mu h_2 (hM 88 (by decide +kernel))
  clear_value s_3
  exact (W_X12_readsLaw_L12 (sub_tr (by decide +kernel) hM) h_4)
theorem W_X12_number {M : Nat} {z : mG} {a1 : Int32} {a2 : Int32} {s : mG} (hM : sub 309485009821345068724781056 M) (h : KB M z s) : pk (F_X12_number a1 a2 s) (fun τ => KB M z τ.2) := by
  unfold F_X12_number
  refine pk_ite ?_ ?_
  · refine pk_b1 pk_top (fun _ _ => ?_)
    refine pk_ite ?_ ?_
    · refine pk_b2 (W_X12_bad (sub_tr (by decide +kernel) hM) h) (fun _ s_1 (h_2 : KB M z s_1) => ?_)
      refine pk_pp ?_
      exact pk_some h_2
    · extract_lets +onlyGivenNames s_3
      have h_4 : KB M z s_3 := KB_mu h (hM 88 (by decide +kernel))
      clear_value s_3
      refine pk_b1 (W_X12_next0 (sub_tr (by decide +kernel) hM) h_4) (fun s_5 (h_6 : KB M z s_5) => ?_)
      exact pk_some h_6
  · refine pk_b2 (W_X12_bad (sub_tr (by decide +kernel) hM) h) (fun _ s_7 (h_8 : KB M z s_7) => ?_)
    refine pk_pp ?_
    exact pk_some h_8
theorem W_X12_told_18 {M : Nat} {z : mG} {s : mG} (hM : sub 0 M) (h : KB M z s) : pk (F_X12_told_18 s) (fun τ => KB M z τ.2) := by
  unfold F_X12_told_18
  exact pk_some h
theorem W_X12_told {M : Nat} {z : mG} {a1 : Int32} {a2 : Int32} {a3 : Int32} {a4 : Int32} {s : mG} (hM : sub 20116525638387429467110768640 M) (h : KB M z s) : pk (F_X12_told a1 a2 a3 a4 s) (fun τ => KB M z τ.2) := by
  unfold F_X12_told
  refine pk_b2 (W_X12_need (sub_tr (by decide +kernel) hM) h) (fun _ s_1 (h_2 : KB M z s_1) => ?_)
  refine pk_ite ?_ ?_
  · exact (W_X12_told_18 (sub_tr (by decide +kernel) hM) h_2)
  · refine pk_b2 (W_X12_number (sub_tr (by decide +kernel) hM) h_2) (fun _ s_3 (h_4 : KB M z s_3) => ?_)
    refine pk_ite ?_ ?_
    · exact (W_X12_told_18 (sub_tr (by decide +kernel) hM) h_4)
    · refine pk_nn ?_
      extract_lets +onlyGivenNames s_5
      have h_6 : KB M z s_5 := KB_mu h_4 (hM 94 (by decide +kernel))
      clear_value s_5
      exact pk_some h_6
theorem W_X12_aSign_63 {M : Nat} {z : mG} {s : mG} (hM : sub 0 M) (h : KB M z s) : pk (F_X12_aSign_63 s) (fun τ => KB M z τ.2) := by
  unfold F_X12_aSign_63
  exact pk_some h
theorem W_X12_aSign {M : Nat} {z : mG} {s : mG} (hM : sub 20116525638387429467110768640 M) (h : KB M z s) : pk (F_X12_aSign s) (fun τ => KB M z τ.2) := by
  unfold F_X12_aSign
  refine pk_b2 (W_X12_need (sub_tr (by decide +kernel) hM) h) (fun _ s_1 (h_2 : KB M z s_1) => ?_)
  refine pk_ite ?_ ?_
  · exact (W_X12_aSign_63 (sub_tr (by decide +kernel) hM) h_2)
  · refine pk_b2 (W_X12_told (sub_tr (by decide +kernel) hM) h_2) (fun _ s_3 (h_4 : KB M z s_3) => ?_)
    refine pk_ite ?_ ?_
    · exact (W_X12_aSign_63 (sub_tr (by decide +kernel) hM) h_4)
    · refine pk_b2 (W_X12_told (sub_tr (by decide +kernel) hM) h_4) (fun _ s_5 (h_6 : KB M z s_5) => ?_)
      refine pk_ite ?_ ?_
      · exact (W_X12_aSign_63 (sub_tr (by decide +kernel) hM) h_6)
      · refine pk_b2 (W_X12_need (sub_tr (by decide +kernel) hM) h_6) (fun _ s_7 (h_8 : KB M z s_7) => ?_)
        refine pk_ite ?_ ?_
        · exact (W_X12_aSign_63 (sub_tr (by decide +kernel) hM) h_8)
        · exact pk_some h_8
theorem W_X12_aShift_90 {M : Nat} {z : mG} {s : mG} (hM : sub 0 M) (h : KB M z s) : pk (F_X12_aShift_90 s) (fun τ => KB M z τ.2) := by
  unfold F_X12_aShift_90
  exact pk_some h
theorem W_X12_aShift {M : Nat} {z : mG} {s : mG} (hM : sub 20116525638387429467110768640 M) (h : KB M z s) : pk (F_X12_aShift s) (fun τ => KB M z τ.2) := by
  unfold F_X12_aShift
  refine pk_b2 (W_X12_told (sub_tr (by decide +kernel) hM) h) (fun _ s_1 (h_2 : KB M z s_1) => ?_)
  refine pk_ite ?_ ?_
  · exact (W_X12_aShift_90 (sub_tr (by decide +kernel) hM) h_2)
  · refine pk_b2 (W_X12_told (sub_tr (by decide +kernel) hM) h_2) (fun _ s_3 (h_4 : KB M z s_3) => ?_)
    refine pk_ite ?_ ?_
    · exact (W_X12_aShift_90 (sub_tr (by decide +kernel) hM) h_4)
    · refine pk_b2 (W_X12_told (sub_tr (by decide +kernel) hM) h_4) (fun _ s_5 (h_6 : KB M z s_5) => ?_)
      refine pk_ite ?_ ?_
      · exact (W_X12_aShift_90 (sub_tr (by decide +kernel) hM) h_6)
      · refine pk_b2 (W_X12_told (sub_tr (by decide +kernel) hM) h_6) (fun _ s_7 (h_8 : KB M z s_7) => ?_)
        refine pk_ite ?_ ?_
        · exact (W_X12_aShift_90 (sub_tr (by decide +kernel) hM) h_8)
        · refine pk_b2 (W_X12_need (sub_tr (by decide +kernel) hM) h_8) (fun _ s_9 (h_10 : KB M z s_9) => ?_)
          refine pk_ite ?_ ?_
          · exact (W_X12_aShift_90 (sub_tr (by decide +kernel) hM) h_10)
          · exact pk_some h_10
theorem W_X12_readsRows_115 {M : Nat} {z : mG} {x1 : Int32} {s : mG} (hM : sub 0 M) (h : KB M z s) : pk (F_X12_readsRows_115 x1 s) (fun τ => KB M z τ.2) := by
  unfold F_X12_readsRows_115
  refine pk_pp ?_
  exact pk_some h
theorem W_X12_readsRows_108 {M : Nat} {z : mG} {x1 : Int32} {y1 : Int32} {y2 : Int32} {s : mG} (hM : sub 309485009821345068724781056 M) (h : KB M z s) : pk (F_X12_readsRows_108 x1 y1 y2 s) (se (fun τ => KB M z τ.2) (fun τ => KB M z τ.2)) := by
  unfold F_X12_readsRows_108
  extract_lets +onlyGivenNames s_1
  have h_2 : KB M z s_1 := KB_mu h (hM 88 (by decide +kernel))
  clear_value s_1
  exact pk_some h_2
theorem W_X12_readsRows_93 {M : Nat} {z : mG} {y0 : Int32} {s : mG} (hM : sub 309485009821345068724781056 M) (h : KB M z s) : pk (F_X12_readsRows_93 y0 s) (se (fun τ => KB M z τ.2) (fun τ => KB M z τ.2)) := by
  unfold F_X12_readsRows_93
  refine pk_ite ?_ ?_
  · exact (W_X12_readsRows_108 (sub_tr (by decide +kernel) hM) h)
  · exact (W_X12_readsRows_108 (sub_tr (by decide +kernel) hM) h)
theorem W_X12_readsRows_65 {M : Nat} {z : mG} {y0 : Int32} {y1 : Int32} {s : mG} (hM : sub 20116525638387429467110768640 M) (h : KB M z s) : pk (F_X12_readsRows_65 y0 y1 s) (se (fun τ => KB M z τ.2) (fun τ => KB M z τ.2)) := by
  unfold F_X12_readsRows_65
  refine pk_ite ?_ ?_
  · refine pk_b2 (W_X12_bad (sub_tr (by decide +kernel) hM) h) (fun _ s_1 (h_2 : KB M z s_1) => ?_)
    refine pk_pp ?_
    exact pk_some h_2
  · refine pk_ite ?_ ?_
    · refine pk_b2 (W_X12_aSign (sub_tr (by decide +kernel) hM) h) (fun _ s_3 (h_4 : KB M z s_3) => ?_)
      exact (W_X12_readsRows_93 (sub_tr (by decide +kernel) hM) h_4)
    · refine pk_b2 (W_X12_aShift (sub_tr (by decide +kernel) hM) h) (fun _ s_5 (h_6 : KB M z s_5) => ?_)
      exact (W_X12_readsRows_93 (sub_tr (by decide +kernel) hM) h_6)
theorem W_X12_readsRows_37 {M : Nat} {z : mG} {y0 : Int32} {y1 : Int32} {s : mG} (hM : sub 20116525638387429467110768640 M) (h : KB M z s) : pk (F_X12_readsRows_37 y0 y1 s) (se (fun τ => KB M z τ.2) (fun τ => KB M z τ.2)) := by
  unfold F_X12_readsRows_37
  refine pk_ite ?_ ?_
  · refine pk_ite ?_ ?_
    · exact (W_X12_readsRows_65 (sub_tr (by decide +kernel) hM) h)
    · exact (W_X12_readsRows_65 (sub_tr (by decide +kernel) hM) h)
  · refine pk_b2 (W_X12_bad (sub_tr (by decide +kernel) hM) h) (fun _ s_1 (h_2 : KB M z s_1) => ?_)
    refine pk_pp ?_
    exact pk_some h_2
theorem W_X12_readsRows_B7 {M : Nat} {z : mG} {x1 : Int32} {s : mG} (hM : sub 20116525638387429467110768640 M) (h : KB M z s) : pk (F_X12_readsRows_B7 x1 s) (se (fun τ => KB M z τ.2) (fun τ => KB M z τ.2)) := by
  unfold F_X12_readsRows_B7
  refine pk_ite ?_ ?_
  · refine pk_b1r ?_
    exact (W_X12_readsRows_115 (sub_tr (by decide +kernel) hM) h)
  · refine pk_ite ?_ ?_
    · refine pk_b1r ?_
      exact (W_X12_readsRows_115 (sub_tr (by decide +kernel) hM) h)
    · refine pk_ite ?_ ?_
      · exact (W_X12_readsRows_37 (sub_tr (by decide +kernel) hM) h)
      · exact (W_X12_readsRows_37 (sub_tr (by decide +kernel) hM) h)
theorem W_X12_readsRows_L7 {M : Nat} {z : mG} {x1 : Int32} {s : mG} (hM : sub 20116525638387429467110768640 M) (h : KB M z s) : pk (F_X12_readsRows_L7 x1 s) (fun τ => KB M z τ.2) := by
  unfold F_X12_readsRows_L7
  refine pk_whl (fun v => KB M z v.2) h (fun v hv => ?_)
  obtain ⟨y0, y1⟩ := v
  exact W_X12_readsRows_B7 (sub_tr (by decide +kernel) hM) hv
theorem W_X12_readsRows {M : Nat} {z : mG} {s : mG} (hM : sub 20116525638387429467110768640 M) (h : KB M z s) : pk (F_X12_readsRows s) (fun τ => KB M z τ.2) := by
  unfold F_X12_readsRows
  extract_lets +onlyGivenNames s_1
  have h_2 : KB M z s_1 := KB_mu h (hM 88 (by decide +kernel))
  clear_value s_1
  exact (W_X12_readsRows_L7 (sub_tr (by decide +kernel) hM) h_2)
theorem W_X12_putsLaw_B107 {M : Nat} {z : mG} {x1 : Int32} {s : mG} (hM : sub 618970019642690137449562112 M) (h : KB M z s) : pk (F_X12_putsLaw_B107 x1 s) (se (fun τ => KB M z τ.2) (fun τ => KB M z τ.2)) := by
  unfold F_X12_putsLaw_B107
  refine pk_ite ?_ ?_
  · exact pk_some h
  · refine pk_nn ?_
    refine pk_nn ?_
    extract_lets +onlyGivenNames s_1
    have h_2 : KB M z s_1 := KB_mu h (hM 89 (by decide +kernel))
    clear_value s_1
    exact pk_some h_2
theorem W_X12_putsLaw_L107 {M : Nat} {z : mG} {x1 : Int32} {s : mG} (hM : sub 618970019642690137449562112 M) (h : KB M z s) : pk (F_X12_putsLaw_L107 x1 s) (fun τ => KB M z τ.2) := by
  unfold F_X12_putsLaw_L107
  refine pk_whl (fun v => KB M z v.2) h (fun v hv => ?_)
  obtain ⟨y0, y1⟩ := v
  exact W_X12_putsLaw_B107 (sub_tr (by decide +kernel) hM) hv
theorem W_X12_putsLaw_B13 {M : Nat} {z : mG} {x1 : Int32} {s : mG} (hM : sub 618970019642690137449562112 M) (h : KB M z s) : pk (F_X12_putsLaw_B13 x1 s) (se (fun τ => KB M z τ.2) (fun τ => KB M z τ.2)) := by
  unfold F_X12_putsLaw_B13
  refine pk_ite ?_ ?_
  · refine pk_b1r ?_
    exact (W_X12_putsLaw_L107 (sub_tr (by decide +kernel) hM) h)
  · refine pk_nn ?_
    refine pk_nn ?_
    extract_lets +onlyGivenNames s_1
    have h_2 : KB M z s_1 := KB_mu h (hM 89 (by decide +kernel))
    clear_value s_1
    refine pk_nn ?_
    refine pk_nn ?_
    extract_lets +onlyGivenNames s_3
    have h_4 : KB M z s_3 := KB_mu h_2 (hM 89 (by decide +kernel))
    clear_value s_3
    refine pk_nn ?_
    refine pk_nn ?_
    extract_lets +onlyGivenNames s_5
    have h_6 : KB M z s_5 := KB_mu h_4 (hM 89 (by decide +kernel))
    clear_value s_5
    refine pk_nn ?_
    refine pk_nn ?_
    extract_lets +onlyGivenNames s_7
    have h_8 : KB M z s_7 := KB_mu h_6 (hM 89 (by decide +kernel))
    clear_value s_7
    exact pk_some h_8
theorem W_X12_putsLaw_L13 {M : Nat} {z : mG} {x1 : Int32} {s : mG} (hM : sub 618970019642690137449562112 M) (h : KB M z s) : pk (F_X12_putsLaw_L13 x1 s) (fun τ => KB M z τ.2) := by
  unfold F_X12_putsLaw_L13
  refine pk_whl (fun v => KB M z v.2) h (fun v hv => ?_)
  obtain ⟨y0, y1⟩ := v
  exact W_X12_putsLaw_B13 (sub_tr (by decide +kernel) hM) hv
theorem W_X12_putsLaw {M : Nat} {z : mG} {s : mG} (hM : sub 618970019642690137449562112 M) (h : KB M z s) : pk (F_X12_putsLaw s) (fun τ => KB M z τ.2) := by
  unfold F_X12_putsLaw
  extract_lets +onlyGivenNames s_1
  have h_2 : KB M z s_1 := KB_mu h (hM 89 (by decide +kernel))
  clear_value s_1
  exact (W_X12_putsLaw_L13 (sub_tr (by decide +kernel) hM) h_2)
theorem W_X12_putsSigns_B47 {M : Nat} {z : mG} {x1 : Int32} {s : mG} (hM : sub 928455029464035206174343168 M) (h : KB M z s) : pk (F_X12_putsSigns_B47 x1 s) (se (fun τ => KB M z τ.2) (fun τ => KB M z τ.2)) := by
  unfold F_X12_putsSigns_B47
  refine pk_ite ?_ ?_
  · refine pk_b1 (W_X12_forgets (sub_tr (by decide +kernel) hM) h) (fun s_1 (h_2 : KB M z s_1) => ?_)
    exact pk_some h_2
  · refine pk_nn ?_
    extract_lets +onlyGivenNames s_3
    have h_4 : KB M z s_3 := KB_mu h (hM 89 (by decide +kernel))
    clear_value s_3
    exact pk_some h_4
theorem W_X12_putsSigns_L47 {M : Nat} {z : mG} {x1 : Int32} {s : mG} (hM : sub 928455029464035206174343168 M) (h : KB M z s) : pk (F_X12_putsSigns_L47 x1 s) (fun τ => KB M z τ.2) := by
  unfold F_X12_putsSigns_L47
  refine pk_whl (fun v => KB M z v.2) h (fun v hv => ?_)
  obtain ⟨y0, y1⟩ := v
  exact W_X12_putsSigns_B47 (sub_tr (by decide +kernel) hM) hv
theorem W_X12_putsSigns_B13 {M : Nat} {z : mG} {x1 : Int32} {s : mG} (hM : sub 928455029464035206174343168 M) (h : KB M z s) : pk (F_X12_putsSigns_B13 x1 s) (se (fun τ => KB M z τ.2) (fun τ => KB M z τ.2)) := by
  unfold F_X12_putsSigns_B13
  refine pk_ite ?_ ?_
  · refine pk_b1r ?_
    exact (W_X12_putsSigns_L47 (sub_tr (by decide +kernel) hM) h)
  · refine pk_nn ?_
    refine pk_nn ?_
    extract_lets +onlyGivenNames s_1
    have h_2 : KB M z s_1 := KB_mu h (hM 89 (by decide +kernel))
    clear_value s_1
    exact pk_some h_2
theorem W_X12_putsSigns_L13 {M : Nat} {z : mG} {x1 : Int32} {s : mG} (hM : sub 928455029464035206174343168 M) (h : KB M z s) : pk (F_X12_putsSigns_L13 x1 s) (fun τ => KB M z τ.2) := by
  unfold F_X12_putsSigns_L13
  refine pk_whl (fun v => KB M z v.2) h (fun v hv => ?_)
  obtain ⟨y0, y1⟩ := v
  exact W_X12_putsSigns_B13 (sub_tr (by decide +kernel) hM) hv
theorem W_X12_putsSigns {M : Nat} {z : mG} {s : mG} (hM : sub 928455029464035206174343168 M) (h : KB M z s) : pk (F_X12_putsSigns s) (fun τ => KB M z τ.2) := by
  unfold F_X12_putsSigns
  extract_lets +onlyGivenNames s_1
  have h_2 : KB M z s_1 := KB_mu h (hM 89 (by decide +kernel))
  clear_value s_1
  exact (W_X12_putsSigns_L13 (sub_tr (by decide +kernel) hM) h_2)
theorem W_X12_putsShifts_B13 {M : Nat} {z : mG} {x1 : Int32} {s : mG} (hM : sub 928455029464035206174343168 M) (h : KB M z s) : pk (F_X12_putsShifts_B13 x1 s) (se (fun τ => KB M z τ.2) (fun τ => KB M z τ.2)) := by
  unfold F_X12_putsShifts_B13
  refine pk_ite ?_ ?_
  · refine pk_b1 (W_X12_forgets (sub_tr (by decide +kernel) hM) h) (fun s_1 (h_2 : KB M z s_1) => ?_)
    exact pk_some h_2
  · refine pk_nn ?_
    refine pk_nn ?_
    extract_lets +onlyGivenNames s_3
    have h_4 : KB M z s_3 := KB_mu h (hM 89 (by decide +kernel))
    clear_value s_3
    exact pk_some h_4
theorem W_X12_putsShifts_L13 {M : Nat} {z : mG} {x1 : Int32} {s : mG} (hM : sub 928455029464035206174343168 M) (h : KB M z s) : pk (F_X12_putsShifts_L13 x1 s) (fun τ => KB M z τ.2) := by
  unfold F_X12_putsShifts_L13
  refine pk_whl (fun v => KB M z v.2) h (fun v hv => ?_)
  obtain ⟨y0, y1⟩ := v
  exact W_X12_putsShifts_B13 (sub_tr (by decide +kernel) hM) hv
theorem W_X12_putsShifts {M : Nat} {z : mG} {s : mG} (hM : sub 928455029464035206174343168 M) (h : KB M z s) : pk (F_X12_putsShifts s) (fun τ => KB M z τ.2) := by
  unfold F_X12_putsShifts
  extract_lets +onlyGivenNames s_1
  have h_2 : KB M z s_1 := KB_mu h (hM 89 (by decide +kernel))
  clear_value s_1
  exact (W_X12_putsShifts_L13 (sub_tr (by decide +kernel) hM) h_2)
theorem W_X12_text_60 {M : Nat} {z : mG} {x1 : Int32} {y0 : Int32} {s : mG} (hM : sub 928455029464035206174343168 M) (h : KB M z s) : pk (F_X12_text_60 x1 y0 s) (fun τ => KB M z τ.2) := by
  unfold F_X12_text_60
  extract_lets +onlyGivenNames s_1
  have h_2 : KB M z s_1 := KB_mu h (hM 88 (by decide +kernel))
  clear_value s_1
  refine pk_ite ?_ ?_
  · extract_lets +onlyGivenNames s_3
    have h_4 : KB M z s_3 := KB_mu h_2 (hM 88 (by decide +kernel))
    clear_value s_3
    extract_lets +onlyGivenNames s_5
    have h_6 : KB M z s_5 := KB_mu h_4 (hM 88 (by decide +kernel))
    clear_value s_5
    exact pk_some h_6
  · refine pk_ite ?_ ?_
    · refine pk_b2 (W_X12_putsLaw (sub_tr (by decide +kernel) hM) h_2) (fun _ s_7 (h_8 : KB M z s_7) => ?_)
      exact pk_some h_8
    · refine pk_ite ?_ ?_
      · refine pk_b2 (W_X12_putsSigns (sub_tr (by decide +kernel) hM) h_2) (fun _ s_9 (h_10 : KB M z s_9) => ?_)
        exact pk_some h_10
      · refine pk_b2 (W_X12_putsShifts (sub_tr (by decide +kernel) hM) h_2) (fun _ s_11 (h_12 : KB M z s_11) => ?_)
        exact pk_some h_12
theorem W_X12_text {M : Nat} {z : mG} {a1 : Int32} {s : mG} (hM : sub 35590776129454682903349821440 M) (h : KB M z s) : pk (F_X12_text a1 s) (fun τ => KB M z τ.2) := by
  unfold F_X12_text
  extract_lets +onlyGivenNames s_1
  have h_2 : KB M z s_1 := KB_mu h (hM 88 (by decide +kernel))
  clear_value s_1
  extract_lets +onlyGivenNames s_3
  have h_4 : KB M z s_3 := KB_mu h_2 (hM 88 (by decide +kernel))
  clear_value s_3
  refine pk_b1 pk_top (fun _ _ => ?_)
  refine pk_ite ?_ ?_
  · extract_lets +onlyGivenNames s_5
    have h_6 : KB M z s_5 := KB_mu h_4 (hM 88 (by decide +kernel))
    clear_value s_5
    exact pk_some h_6
  · extract_lets +onlyGivenNames s_7
    have h_8 : KB M z s_7 := KB_mu h_4 (hM 88 (by decide +kernel))
    clear_value s_7
    extract_lets +onlyGivenNames s_9
    have h_10 : KB M z s_9 := KB_mu h_8 (hM 88 (by decide +kernel))
    clear_value s_9
    extract_lets +onlyGivenNames s_11
    have h_12 : KB M z s_11 := KB_mu h_10 (hM 88 (by decide +kernel))
    clear_value s_11
    refine pk_b1 (W_X12_next0 (sub_tr (by decide +kernel) hM) h_12) (fun s_13 (h_14 : KB M z s_13) => ?_)
    refine pk_ite ?_ ?_
    · refine pk_b2 (W_X12_readsLaw (sub_tr (by decide +kernel) hM) h_14) (fun _ s_15 (h_16 : KB M z s_15) => ?_)
      exact (W_X12_text_60 (sub_tr (by decide +kernel) hM) h_16)
    · refine pk_b2 (W_X12_readsRows (sub_tr (by decide +kernel) hM) h_14) (fun _ s_17 (h_18 : KB M z s_17) => ?_)
      exact (W_X12_text_60 (sub_tr (by decide +kernel) hM) h_18)
theorem W_X12_comesTo_180 {M : Nat} {z : mG} {x1 : Int32} {x3 : Int32} {x4 : Int32} {x5 : Int32} {s : mG} (hM : sub 0 M) (h : KB M z s) : pk (F_X12_comesTo_180 x1 x3 x4 x5 s) (se (fun τ => KB M z τ.2.2.2.2) (fun τ => KB M z τ.2)) := by
  unfold F_X12_comesTo_180
  exact pk_some h
theorem W_X12_comesTo_86 {M : Nat} {z : mG} {x1 : Int32} {x3 : Int32} {x4 : Int32} {x5 : Int32} {y1 : Int32} {y2 : Int32} {s : mG} (hM : sub 79228162514264337593543950336 M) (h : KB M z s) : pk (F_X12_comesTo_86 x1 x3 x4 x5 y1 y2 s) (se (fun τ => KB M z τ.2.2.2.2) (fun τ => KB M z τ.2)) := by
  unfold F_X12_comesTo_86
  refine pk_nn ?_
  extract_lets +onlyGivenNames s_1
  have h_2 : KB M z s_1 := KB_mu h (hM 96 (by decide +kernel))
  clear_value s_1
  exact (W_X12_comesTo_180 (sub_tr (by decide +kernel) hM) h_2)
theorem W_X12_comesTo_B6 {M : Nat} {z : mG} {x1 : Int32} {x3 : Int32} {x4 : Int32} {x5 : Int32} {s : mG} (hM : sub 79228162514264337593543950336 M) (h : KB M z s) : pk (F_X12_comesTo_B6 x1 x3 x4 x5 s) (se (fun τ => KB M z τ.2.2.2.2) (fun τ => KB M z τ.2)) := by
  unfold F_X12_comesTo_B6
  refine pk_ite ?_ ?_
  · exact pk_some h
  · refine pk_nn ?_
    extract_lets +onlyGivenNames v_1
    clear_value v_1
    refine pk_nn ?_
    extract_lets +onlyGivenNames v_2
    clear_value v_2
    refine pk_ite ?_ ?_
    · refine pk_ite ?_ ?_
      · refine pk_nn ?_
        refine pk_nn ?_
        refine pk_nn ?_
        extract_lets +onlyGivenNames s_3
        have h_4 : KB M z s_3 := KB_mu h (hM 96 (by decide +kernel))
        clear_value s_3
        exact (W_X12_comesTo_180 (sub_tr (by decide +kernel) hM) h_4)
      · refine pk_ite ?_ ?_
        · refine pk_nn ?_
          refine pk_nn ?_
          extract_lets +onlyGivenNames s_5
          have h_6 : KB M z s_5 := KB_mu h (hM 96 (by decide +kernel))
          clear_value s_5
          exact (W_X12_comesTo_180 (sub_tr (by decide +kernel) hM) h_6)
        · refine pk_nn ?_
          refine pk_nn ?_
          refine pk_b1 pk_top (fun _ _ => ?_)
          refine pk_nn ?_
          extract_lets +onlyGivenNames s_7
          have h_8 : KB M z s_7 := KB_mu h (hM 96 (by decide +kernel))
          clear_value s_7
          exact (W_X12_comesTo_180 (sub_tr (by decide +kernel) hM) h_8)
    · refine pk_ite ?_ ?_
      · exact (W_X12_comesTo_86 (sub_tr (by decide +kernel) hM) h)
      · refine pk_nn ?_
        exact (W_X12_comesTo_86 (sub_tr (by decide +kernel) hM) h)
theorem W_X12_comesTo_L6 {M : Nat} {z : mG} {x1 : Int32} {x3 : Int32} {x4 : Int32} {x5 : Int32} {s : mG} (hM : sub 79228162514264337593543950336 M) (h : KB M z s) : pk (F_X12_comesTo_L6 x1 x3 x4 x5 s) (fun τ => KB M z τ.2) := by
  unfold F_X12_comesTo_L6
  refine pk_whl (fun v => KB M z v.2.2.2.2) h (fun v hv => ?_)
  obtain ⟨y0, y1, y2, y3, y4⟩ := v
  exact W_X12_comesTo_B6 (sub_tr (by decide +kernel) hM) hv
theorem W_X12_comesTo {M : Nat} {z : mG} {a1 : Int32} {a2 : Int32} {a3 : Int32} {s : mG} (hM : sub 79228162514264337593543950336 M) (h : KB M z s) : pk (F_X12_comesTo a1 a2 a3 s) (fun τ => KB M z τ.2) := by
  unfold F_X12_comesTo
  exact (W_X12_comesTo_L6 (sub_tr (by decide +kernel) hM) h)
theorem W_X12_isSo_52 {M : Nat} {z : mG} {s : mG} (hM : sub 0 M) (h : KB M z s) : pk (F_X12_isSo_52 s) (fun τ => KB M z τ.2) := by
  unfold F_X12_isSo_52
  exact pk_some h
theorem W_X12_isSo {M : Nat} {z : mG} {a1 : Int32} {s : mG} (hM : sub 79228162514264337593543950336 M) (h : KB M z s) : pk (F_X12_isSo a1 s) (fun τ => KB M z τ.2) := by
  unfold F_X12_isSo
  refine pk_nn ?_
  refine pk_nn ?_
  refine pk_ite ?_ ?_
  · exact (W_X12_isSo_52 (sub_tr (by decide +kernel) hM) h)
  · refine pk_nn ?_
    refine pk_nn ?_
    refine pk_b2 (W_X12_comesTo (sub_tr (by decide +kernel) hM) h) (fun _ s_1 (h_2 : KB M z s_1) => ?_)
    refine pk_ite ?_ ?_
    · exact (W_X12_isSo_52 (sub_tr (by decide +kernel) hM) h_2)
    · exact pk_some h_2
theorem W_X12_saysIn_187 {M : Nat} {z : mG} {x1 : Int32} {x2 : Int32} {x6 : Int32} {s : mG} (hM : sub 0 M) (h : KB M z s) : pk (F_X12_saysIn_187 x1 x2 x6 s) (se (fun τ => KB M z τ.2.2.2) (fun τ => KB M z τ.2)) := by
  unfold F_X12_saysIn_187
  exact pk_some h
theorem W_X12_saysIn_B113 {M : Nat} {z : mG} {x1 : Int32} {x2 : Int32} {x6 : Int32} {s : mG} (hM : sub 79228162514264337593543950336 M) (h : KB M z s) : pk (F_X12_saysIn_B113 x1 x2 x6 s) (se (fun τ => KB M z τ.2.2.2) (fun τ => KB M z τ.2)) := by
  unfold F_X12_saysIn_B113
  refine pk_ite ?_ ?_
  · refine pk_b1 pk_top (fun _ _ => ?_)
    exact pk_some h
  · refine pk_nn ?_
    refine pk_ite ?_ ?_
    · refine pk_b2 (W_X12_isSo (sub_tr (by decide +kernel) hM) h) (fun _ s_1 (h_2 : KB M z s_1) => ?_)
      refine pk_ite ?_ ?_
      · exact (W_X12_saysIn_187 (sub_tr (by decide +kernel) hM) h_2)
      · refine pk_nn ?_
        refine pk_nn ?_
        refine pk_b2 (W_X12_comesTo (sub_tr (by decide +kernel) hM) h_2) (fun _ s_3 (h_4 : KB M z s_3) => ?_)
        refine pk_b1 pk_top (fun _ _ => ?_)
        refine pk_b1 pk_top (fun _ _ => ?_)
        exact pk_some h_4
    · exact (W_X12_saysIn_187 (sub_tr (by decide +kernel) hM) h)
theorem W_X12_saysIn_L113 {M : Nat} {z : mG} {x1 : Int32} {x2 : Int32} {x6 : Int32} {s : mG} (hM : sub 79228162514264337593543950336 M) (h : KB M z s) : pk (F_X12_saysIn_L113 x1 x2 x6 s) (fun τ => KB M z τ.2) := by
  unfold F_X12_saysIn_L113
  refine pk_whl (fun v => KB M z v.2.2.2) h (fun v hv => ?_)
  obtain ⟨y0, y1, y2, y3⟩ := v
  exact W_X12_saysIn_B113 (sub_tr (by decide +kernel) hM) hv
theorem W_X12_saysIn_100 {M : Nat} {z : mG} {x1 : Int32} {x2 : Int32} {x5 : Int32} {y1 : Int32} {y2 : Int32} {s : mG} (hM : sub 237684487542793012780631851008 M) (h : KB M z s) : pk (F_X12_saysIn_100 x1 x2 x5 y1 y2 s) (fun τ => KB M z τ.2) := by
  unfold F_X12_saysIn_100
  refine pk_nn ?_
  extract_lets +onlyGivenNames s_1
  have h_2 : KB M z s_1 := KB_mu h (hM 97 (by decide +kernel))
  clear_value s_1
  extract_lets +onlyGivenNames s_3
  have h_4 : KB M z s_3 := KB_mu h_2 (hM 97 (by decide +kernel))
  clear_value s_3
  exact (W_X12_saysIn_L113 (sub_tr (by decide +kernel) hM) h_4)
theorem W_X12_saysIn {M : Nat} {z : mG} {a1 : Int32} {a2 : Int32} {a3 : Int32} {a4 : Int32} {a5 : Int32} {s : mG} (hM : sub 237684487542793012780631851008 M) (h : KB M z s) : pk (F_X12_saysIn a1 a2 a3 a4 a5 s) (fun τ => KB M z τ.2) := by
  unfold F_X12_saysIn
  extract_lets +onlyGivenNames s_1
  have h_2 : KB M z s_1 := KB_mu h (hM 97 (by decide +kernel))
  clear_value s_1
  refine pk_nn ?_
  extract_lets +onlyGivenNames s_3
  have h_4 : KB M z s_3 := KB_mu h_2 (hM 97 (by decide +kernel))
  clear_value s_3
  refine pk_nn ?_
  extract_lets +onlyGivenNames s_5
  have h_6 : KB M z s_5 := KB_mu h_4 (hM 97 (by decide +kernel))
  clear_value s_5
  extract_lets +onlyGivenNames s_7
  have h_8 : KB M z s_7 := KB_mu h_6 (hM 97 (by decide +kernel))
  clear_value s_7
  extract_lets +onlyGivenNames s_9
  have h_10 : KB M z s_9 := KB_mu h_8 (hM 97 (by decide +kernel))
  clear_value s_9
  extract_lets +onlyGivenNames s_11
  have h_12 : KB M z s_11 := KB_mu h_10 (hM 97 (by decide +kernel))
  clear_value s_11
  extract_lets +onlyGivenNames s_13
  have h_14 : KB M z s_13 := KB_mu h_12 (hM 97 (by decide +kernel))
  clear_value s_13
  refine pk_b1 pk_top (fun _ _ => ?_)
  refine pk_ite ?_ ?_
  · exact (W_X12_saysIn_100 (sub_tr (by decide +kernel) hM) h_14)
  · exact (W_X12_saysIn_100 (sub_tr (by decide +kernel) hM) h_14)
theorem W_X12_saysNow {M : Nat} {z : mG} {a1 : Int32} {a2 : Int32} {s : mG} (hM : sub 237684487542793012780631851008 M) (h : KB M z s) : pk (F_X12_saysNow a1 a2 s) (fun τ => KB M z τ.2) := by
  unfold F_X12_saysNow
  refine pk_nn ?_
  refine pk_b2 (W_X12_saysIn (sub_tr (by decide +kernel) hM) h) (fun _ s_1 (h_2 : KB M z s_1) => ?_)
  exact pk_some h_2
theorem W_X12_keeps_B51 {M : Nat} {z : mG} {x1 : Int32} {s : mG} (hM : sub 2785365088392105618523029504 M) (h : KB M z s) : pk (F_X12_keeps_B51 x1 s) (se (fun τ => KB M z τ.2) (fun τ => KB M z τ)) := by
  unfold F_X12_keeps_B51
  refine pk_ite ?_ ?_
  · extract_lets +onlyGivenNames s_1
    have h_2 : KB M z s_1 := KB_mu h (hM 88 (by decide +kernel))
    clear_value s_1
    exact pk_some h_2
  · refine pk_nn ?_
    refine pk_nn ?_
    extract_lets +onlyGivenNames s_3
    have h_4 : KB M z s_3 := KB_mu h (hM 91 (by decide +kernel))
    clear_value s_3
    exact pk_some h_4
theorem W_X12_keeps_L51 {M : Nat} {z : mG} {x1 : Int32} {s : mG} (hM : sub 2785365088392105618523029504 M) (h : KB M z s) : pk (F_X12_keeps_L51 x1 s) (fun τ => KB M z τ) := by
  unfold F_X12_keeps_L51
  refine pk_whl (fun v => KB M z v.2) h (fun v hv => ?_)
  obtain ⟨y0, y1⟩ := v
  exact W_X12_keeps_B51 (sub_tr (by decide +kernel) hM) hv
theorem W_X12_keeps_49 {M : Nat} {z : mG} {s : mG} (hM : sub 2785365088392105618523029504 M) (h : KB M z s) : pk (F_X12_keeps_49 s) (fun τ => KB M z τ) := by
  unfold F_X12_keeps_49
  exact (W_X12_keeps_L51 (sub_tr (by decide +kernel) hM) h)
theorem W_X12_keeps_B11 {M : Nat} {z : mG} {x1 : Int32} {s : mG} (hM : sub 2785365088392105618523029504 M) (h : KB M z s) : pk (F_X12_keeps_B11 x1 s) (se (fun τ => KB M z τ.2) (fun τ => KB M z τ)) := by
  unfold F_X12_keeps_B11
  refine pk_ite ?_ ?_
  · extract_lets +onlyGivenNames s_1
    have h_2 : KB M z s_1 := KB_mu h (hM 88 (by decide +kernel))
    clear_value s_1
    refine pk_b1r ?_
    exact (W_X12_keeps_49 (sub_tr (by decide +kernel) hM) h_2)
  · refine pk_nn ?_
    refine pk_nn ?_
    extract_lets +onlyGivenNames s_3
    have h_4 : KB M z s_3 := KB_mu h (hM 91 (by decide +kernel))
    clear_value s_3
    exact pk_some h_4
theorem W_X12_keeps_L11 {M : Nat} {z : mG} {x1 : Int32} {s : mG} (hM : sub 2785365088392105618523029504 M) (h : KB M z s) : pk (F_X12_keeps_L11 x1 s) (fun τ => KB M z τ) := by
  unfold F_X12_keeps_L11
  refine pk_whl (fun v => KB M z v.2) h (fun v hv => ?_)
  obtain ⟨y0, y1⟩ := v
  exact W_X12_keeps_B11 (sub_tr (by decide +kernel) hM) hv
theorem W_X12_keeps {M : Nat} {z : mG} {s : mG} (hM : sub 2785365088392105618523029504 M) (h : KB M z s) : pk (F_X12_keeps s) (fun τ => KB M z τ) := by
  unfold F_X12_keeps
  refine pk_ite ?_ ?_
  · exact (W_X12_keeps_L11 (sub_tr (by decide +kernel) hM) h)
  · exact (W_X12_keeps_49 (sub_tr (by decide +kernel) hM) h)
theorem W_X12_undo_B21 {M : Nat} {z : mG} {x1 : Int32} {s : mG} (hM : sub 618970019642690137449562112 M) (h : KB M z s) : pk (F_X12_undo_B21 x1 s) (se (fun τ => KB M z τ.2) (fun τ => KB M z τ.2)) := by
  unfold F_X12_undo_B21
  refine pk_ite ?_ ?_
  · exact pk_some h
  · refine pk_nn ?_
    refine pk_nn ?_
    extract_lets +onlyGivenNames s_1
    have h_2 : KB M z s_1 := KB_mu h (hM 89 (by decide +kernel))
    clear_value s_1
    exact pk_some h_2
theorem W_X12_undo_L21 {M : Nat} {z : mG} {x1 : Int32} {s : mG} (hM : sub 618970019642690137449562112 M) (h : KB M z s) : pk (F_X12_undo_L21 x1 s) (fun τ => KB M z τ.2) := by
  unfold F_X12_undo_L21
  refine pk_whl (fun v => KB M z v.2) h (fun v hv => ?_)
  obtain ⟨y0, y1⟩ := v
  exact W_X12_undo_B21 (sub_tr (by decide +kernel) hM) hv
theorem W_X12_undo {M : Nat} {z : mG} {s : mG} (hM : sub 928455029464035206174343168 M) (h : KB M z s) : pk (F_X12_undo s) (fun τ => KB M z τ.2) := by
  unfold F_X12_undo
  refine pk_ite ?_ ?_
  · exact pk_some h
  · extract_lets +onlyGivenNames s_1
    have h_2 : KB M z s_1 := KB_mu h (hM 88 (by decide +kernel))
    clear_value s_1
    exact (W_X12_undo_L21 (sub_tr (by decide +kernel) hM) h_2)
theorem W_X12_notes {M : Nat} {z : mG} {a1 : Int32} {a2 : Int32} {a3 : Int32} {a4 : Int32} {s : mG} (hM : sub 618970019642690137449562112 M) (h : KB M z s) : pk (F_X12_notes a1 a2 a3 a4 s) (fun τ => KB M z τ) := by
  unfold F_X12_notes
  refine pk_ite ?_ ?_
  · exact pk_some h
  · extract_lets +onlyGivenNames v_1
    clear_value v_1
    refine pk_nn ?_
    extract_lets +onlyGivenNames s_2
    have h_3 : KB M z s_2 := KB_mu h (hM 89 (by decide +kernel))
    clear_value s_2
    refine pk_nn ?_
    extract_lets +onlyGivenNames s_4
    have h_5 : KB M z s_4 := KB_mu h_3 (hM 89 (by decide +kernel))
    clear_value s_4
    refine pk_nn ?_
    extract_lets +onlyGivenNames s_6
    have h_7 : KB M z s_6 := KB_mu h_5 (hM 89 (by decide +kernel))
    clear_value s_6
    refine pk_nn ?_
    extract_lets +onlyGivenNames s_8
    have h_9 : KB M z s_8 := KB_mu h_7 (hM 89 (by decide +kernel))
    clear_value s_8
    refine pk_nn ?_
    extract_lets +onlyGivenNames s_10
    have h_11 : KB M z s_10 := KB_mu h_9 (hM 89 (by decide +kernel))
    clear_value s_10
    extract_lets +onlyGivenNames s_12
    have h_13 : KB M z s_12 := KB_mu h_11 (hM 89 (by decide +kernel))
    clear_value s_12
    exact pk_some h_13
theorem W_X12_hangsOn_62 {M : Nat} {z : mG} {x1 : Int32} {s : mG} (hM : sub 0 M) (h : KB M z s) : pk (F_X12_hangsOn_62 x1 s) (fun τ => KB M z τ.2) := by
  unfold F_X12_hangsOn_62
  refine pk_b1 pk_top (fun _ _ => ?_)
  refine pk_ite ?_ ?_
  · exact pk_some h
  · exact pk_some h
theorem W_X12_hangsOn_29 {M : Nat} {z : mG} {x1 : Int32} {y0 : Int32} {s : mG} (hM : sub 0 M) (h : KB M z s) : pk (F_X12_hangsOn_29 x1 y0 s) (fun τ => KB M z τ.2) := by
  unfold F_X12_hangsOn_29
  refine pk_nn ?_
  extract_lets +onlyGivenNames v_1
  clear_value v_1
  refine pk_ite ?_ ?_
  · exact (W_X12_hangsOn_62 (sub_tr (by decide +kernel) hM) h)
  · refine pk_b1 pk_top (fun _ _ => ?_)
    refine pk_ite ?_ ?_
    · exact pk_some h
    · exact (W_X12_hangsOn_62 (sub_tr (by decide +kernel) hM) h)
theorem W_X12_hangsOn {M : Nat} {z : mG} {a1 : Int32} {a2 : Int32} {a3 : Int32} {s : mG} (hM : sub 618970019642690137449562112 M) (h : KB M z s) : pk (F_X12_hangsOn a1 a2 a3 s) (fun τ => KB M z τ.2) := by
  unfold F_X12_hangsOn
  refine pk_b2 (W_X12_draw (sub_tr (by decide +kernel) hM) h) (fun _ s_1 (h_2 : KB M z s_1) => ?_)
  refine pk_ite ?_ ?_
  · refine pk_b2 (W_X12_draw (sub_tr (by decide +kernel) hM) h_2) (fun _ s_3 (h_4 : KB M z s_3) => ?_)
    refine pk_ite ?_ ?_
    · exact (W_X12_hangsOn_29 (sub_tr (by decide +kernel) hM) h_4)
    · exact (W_X12_hangsOn_29 (sub_tr (by decide +kernel) hM) h_4)
  · exact pk_some h_2
theorem W_X12_isMoved_147 {M : Nat} {z : mG} {x1 : Int32} {x7 : Int32} {y1 : Int32} {s : mG} (hM : sub 618970019642690137449562112 M) (h : KB M z s) : pk (F_X12_isMoved_147 x1 x7 y1 s) (fun τ => KB M z τ.2) := by
  unfold F_X12_isMoved_147
  refine pk_b1 pk_top (fun _ _ => ?_)
  refine pk_b1 (W_X12_notes (sub_tr (by decide +kernel) hM) h) (fun s_1 (h_2 : KB M z s_1) => ?_)
  exact pk_some h_2
theorem W_X12_isMoved_136 {M : Nat} {z : mG} {x1 : Int32} {x2 : Int32} {x7 : Int32} {y1 : Int32} {y2 : Int32} {s : mG} (hM : sub 618970019642690137449562112 M) (h : KB M z s) : pk (F_X12_isMoved_136 x1 x2 x7 y1 y2 s) (fun τ => KB M z τ.2) := by
  unfold F_X12_isMoved_136
  refine pk_nn ?_
  extract_lets +onlyGivenNames s_1
  have h_2 : KB M z s_1 := KB_mu h (hM 89 (by decide +kernel))
  clear_value s_1
  refine pk_ite ?_ ?_
  · exact (W_X12_isMoved_147 (sub_tr (by decide +kernel) hM) h_2)
  · exact (W_X12_isMoved_147 (sub_tr (by decide +kernel) hM) h_2)
theorem W_X12_isMoved_110 {M : Nat} {z : mG} {x1 : Int32} {x2 : Int32} {x5 : Int32} {x6 : Int32} {x7 : Int32} {y1 : Int32} {y2 : Int32} {s : mG} (hM : sub 618970019642690137449562112 M) (h : KB M z s) : pk (F_X12_isMoved_110 x1 x2 x5 x6 x7 y1 y2 s) (fun τ => KB M z τ.2) := by
  unfold F_X12_isMoved_110
  refine pk_nn ?_
  extract_lets +onlyGivenNames s_1
  have h_2 : KB M z s_1 := KB_mu h (hM 89 (by decide +kernel))
  clear_value s_1
  refine pk_ite ?_ ?_
  · refine pk_b2 (W_X12_hangsOn (sub_tr (by decide +kernel) hM) h_2) (fun _ s_3 (h_4 : KB M z s_3) => ?_)
    exact (W_X12_isMoved_136 (sub_tr (by decide +kernel) hM) h_4)
  · exact (W_X12_isMoved_136 (sub_tr (by decide +kernel) hM) h_2)
theorem W_X12_isMoved_92 {M : Nat} {z : mG} {x1 : Int32} {x2 : Int32} {x5 : Int32} {x6 : Int32} {y0 : Int32} {s : mG} (hM : sub 618970019642690137449562112 M) (h : KB M z s) : pk (F_X12_isMoved_92 x1 x2 x5 x6 y0 s) (fun τ => KB M z τ.2) := by
  unfold F_X12_isMoved_92
  refine pk_ite ?_ ?_
  · exact (W_X12_isMoved_110 (sub_tr (by decide +kernel) hM) h)
  · exact (W_X12_isMoved_110 (sub_tr (by decide +kernel) hM) h)
theorem W_X12_isMoved_30 {M : Nat} {z : mG} {x1 : Int32} {x2 : Int32} {y1 : Int32} {s : mG} (hM : sub 238303457562435702918081413120 M) (h : KB M z s) : pk (F_X12_isMoved_30 x1 x2 y1 s) (fun τ => KB M z τ.2) := by
  unfold F_X12_isMoved_30
  refine pk_b2 (W_X12_saysNow (sub_tr (by decide +kernel) hM) h) (fun _ s_1 (h_2 : KB M z s_1) => ?_)
  refine pk_b2 (W_X12_saysNow (sub_tr (by decide +kernel) hM) h_2) (fun _ s_3 (h_4 : KB M z s_3) => ?_)
  refine pk_b2 (W_X12_saysNow (sub_tr (by decide +kernel) hM) h_4) (fun _ s_5 (h_6 : KB M z s_5) => ?_)
  refine pk_b2 (W_X12_saysNow (sub_tr (by decide +kernel) hM) h_6) (fun _ s_7 (h_8 : KB M z s_7) => ?_)
  refine pk_b2 (W_X12_draw (sub_tr (by decide +kernel) hM) h_8) (fun _ s_9 (h_10 : KB M z s_9) => ?_)
  refine pk_ite ?_ ?_
  · refine pk_b2 (W_X12_draw (sub_tr (by decide +kernel) hM) h_10) (fun _ s_11 (h_12 : KB M z s_11) => ?_)
    refine pk_ite ?_ ?_
    · exact (W_X12_isMoved_92 (sub_tr (by decide +kernel) hM) h_12)
    · exact (W_X12_isMoved_92 (sub_tr (by decide +kernel) hM) h_12)
  · exact pk_some h_10
theorem W_X12_isMoved_17 {M : Nat} {z : mG} {x1 : Int32} {y0 : Int32} {s : mG} (hM : sub 238303457562435702918081413120 M) (h : KB M z s) : pk (F_X12_isMoved_17 x1 y0 s) (fun τ => KB M z τ.2) := by
  unfold F_X12_isMoved_17
  refine pk_ite ?_ ?_
  · exact (W_X12_isMoved_30 (sub_tr (by decide +kernel) hM) h)
  · exact (W_X12_isMoved_30 (sub_tr (by decide +kernel) hM) h)
theorem W_X12_isMoved {M : Nat} {z : mG} {a1 : Int32} {s : mG} (hM : sub 238303457562435702918081413120 M) (h : KB M z s) : pk (F_X12_isMoved a1 s) (fun τ => KB M z τ.2) := by
  unfold F_X12_isMoved
  refine pk_nn ?_
  refine pk_ite ?_ ?_
  · exact (W_X12_isMoved_17 (sub_tr (by decide +kernel) hM) h)
  · exact (W_X12_isMoved_17 (sub_tr (by decide +kernel) hM) h)
theorem W_X12_anHour_65 {M : Nat} {z : mG} {x2 : Int32} {y0 : Int32} {y1 : Int32} {s : mG} (hM : sub 0 M) (h : KB M z s) : pk (F_X12_anHour_65 x2 y0 y1 s) (se (fun τ => KB M z τ.2.2) (fun τ => KB M z τ.2)) := by
  unfold F_X12_anHour_65
  exact pk_some h
theorem W_X12_anHour_54 {M : Nat} {z : mG} {x1 : Int32} {x2 : Int32} {x3 : Int32} {y1 : Int32} {y2 : Int32} {s : mG} (hM : sub 618970019642690137449562112 M) (h : KB M z s) : pk (F_X12_anHour_54 x1 x2 x3 y1 y2 s) (se (fun τ => KB M z τ.2.2) (fun τ => KB M z τ.2)) := by
  unfold F_X12_anHour_54
  refine pk_nn ?_
  extract_lets +onlyGivenNames s_1
  have h_2 : KB M z s_1 := KB_mu h (hM 89 (by decide +kernel))
  clear_value s_1
  refine pk_ite ?_ ?_
  · exact (W_X12_anHour_65 (sub_tr (by decide +kernel) hM) h_2)
  · exact (W_X12_anHour_65 (sub_tr (by decide +kernel) hM) h_2)
theorem W_X12_anHour_B4 {M : Nat} {z : mG} {x1 : Int32} {x2 : Int32} {s : mG} (hM : sub 238303457562435702918081413120 M) (h : KB M z s) : pk (F_X12_anHour_B4 x1 x2 s) (se (fun τ => KB M z τ.2.2) (fun τ => KB M z τ.2)) := by
  unfold F_X12_anHour_B4
  refine pk_ite ?_ ?_
  · extract_lets +onlyGivenNames s_1
    have h_2 : KB M z s_1 := KB_mu h (hM 89 (by decide +kernel))
    clear_value s_1
    exact pk_some h_2
  · refine pk_b2 (W_X12_isMoved (sub_tr (by decide +kernel) hM) h) (fun _ s_3 (h_4 : KB M z s_3) => ?_)
    refine pk_ite ?_ ?_
    · refine pk_nn ?_
      refine pk_b1 pk_top (fun _ _ => ?_)
      exact (W_X12_anHour_54 (sub_tr (by decide +kernel) hM) h_4)
    · exact (W_X12_anHour_54 (sub_tr (by decide +kernel) hM) h_4)
theorem W_X12_anHour_L4 {M : Nat} {z : mG} {x1 : Int32} {x2 : Int32} {s : mG} (hM : sub 238303457562435702918081413120 M) (h : KB M z s) : pk (F_X12_anHour_L4 x1 x2 s) (fun τ => KB M z τ.2) := by
  unfold F_X12_anHour_L4
  refine pk_whl (fun v => KB M z v.2.2) h (fun v hv => ?_)
  obtain ⟨y0, y1, y2⟩ := v
  exact W_X12_anHour_B4 (sub_tr (by decide +kernel) hM) hv
theorem W_X12_anHour {M : Nat} {z : mG} {s : mG} (hM : sub 238303457562435702918081413120 M) (h : KB M z s) : pk (F_X12_anHour s) (fun τ => KB M z τ.2) := by
  unfold F_X12_anHour
  exact (W_X12_anHour_L4 (sub_tr (by decide +kernel) hM) h)
theorem W_X12_hours_24 {M : Nat} {z : mG} {s : mG} (hM : sub 0 M) (h : KB M z s) : pk (F_X12_hours_24 s) (fun τ => KB M z τ.2) := by
  unfold F_X12_hours_24
  exact pk_some h
theorem W_X12_hours_B30 {M : Nat} {z : mG} {x1 : Int32} {x2 : Int32} {x3 : Int32} {s : mG} (hM : sub 241088822650827808536604442624 M) (h : KB M z s) : pk (F_X12_hours_B30 x1 x2 x3 s) (se (fun τ => KB M z τ.2.2.2) (fun τ => KB M z τ.2)) := by
  unfold F_X12_hours_B30
  refine pk_ite ?_ ?_
  · exact pk_some h
  · refine pk_b1 (W_X12_keeps (sub_tr (by decide +kernel) hM) h) (fun s_1 (h_2 : KB M z s_1) => ?_)
    refine pk_b2 (W_X12_anHour (sub_tr (by decide +kernel) hM) h_2) (fun _ s_3 (h_4 : KB M z s_3) => ?_)
    exact pk_some h_4
theorem W_X12_hours_L30 {M : Nat} {z : mG} {x1 : Int32} {x2 : Int32} {x3 : Int32} {s : mG} (hM : sub 241088822650827808536604442624 M) (h : KB M z s) : pk (F_X12_hours_L30 x1 x2 x3 s) (fun τ => KB M z τ.2) := by
  unfold F_X12_hours_L30
  refine pk_whl (fun v => KB M z v.2.2.2) h (fun v hv => ?_)
  obtain ⟨y0, y1, y2, y3⟩ := v
  exact W_X12_hours_B30 (sub_tr (by decide +kernel) hM) hv
theorem W_X12_hours {M : Nat} {z : mG} {a1 : Int32} {s : mG} (hM : sub 241088822650827808536604442624 M) (h : KB M z s) : pk (F_X12_hours a1 s) (fun τ => KB M z τ.2) := by
  unfold F_X12_hours
  refine pk_b1 pk_top (fun _ _ => ?_)
  refine pk_ite ?_ ?_
  · exact (W_X12_hours_24 (sub_tr (by decide +kernel) hM) h)
  · refine pk_ite ?_ ?_
    · exact (W_X12_hours_L30 (sub_tr (by decide +kernel) hM) h)
    · exact (W_X12_hours_24 (sub_tr (by decide +kernel) hM) h)
theorem W_X12_hang_36 {M : Nat} {z : mG} {s : mG} (hM : sub 0 M) (h : KB M z s) : pk (F_X12_hang_36 s) (fun τ => KB M z τ.2) := by
  unfold F_X12_hang_36
  exact pk_some h
theorem W_X12_hang {M : Nat} {z : mG} {a1 : Int32} {a2 : Int32} {s : mG} (hM : sub 3404335108034795755972591616 M) (h : KB M z s) : pk (F_X12_hang a1 a2 s) (fun τ => KB M z τ.2) := by
  unfold F_X12_hang
  refine pk_b1 pk_top (fun _ _ => ?_)
  refine pk_ite ?_ ?_
  · exact (W_X12_hang_36 (sub_tr (by decide +kernel) hM) h)
  · refine pk_b1 pk_top (fun _ _ => ?_)
    refine pk_ite ?_ ?_
    · exact (W_X12_hang_36 (sub_tr (by decide +kernel) hM) h)
    · refine pk_nn ?_
      refine pk_ite ?_ ?_
      · exact (W_X12_hang_36 (sub_tr (by decide +kernel) hM) h)
      · refine pk_b1 pk_top (fun _ _ => ?_)
        refine pk_ite ?_ ?_
        · refine pk_b1 (W_X12_keeps (sub_tr (by decide +kernel) hM) h) (fun s_1 (h_2 : KB M z s_1) => ?_)
          refine pk_nn ?_
          extract_lets +onlyGivenNames s_3
          have h_4 : KB M z s_3 := KB_mu h_2 (hM 89 (by decide +kernel))
          clear_value s_3
          refine pk_b1 (W_X12_notes (sub_tr (by decide +kernel) hM) h_4) (fun s_5 (h_6 : KB M z s_5) => ?_)
          exact pk_some h_6
        · exact (W_X12_hang_36 (sub_tr (by decide +kernel) hM) h)
theorem W_X12_looks_43 {M : Nat} {z : mG} {s : mG} (hM : sub 0 M) (h : KB M z s) : pk (F_X12_looks_43 s) (fun τ => KB M z τ.2) := by
  unfold F_X12_looks_43
  exact pk_some h
theorem W_X12_looks {M : Nat} {z : mG} {a1 : Int32} {a2 : Int32} {a3 : Int32} {s : mG} (hM : sub 3404335108034795755972591616 M) (h : KB M z s) : pk (F_X12_looks a1 a2 a3 s) (fun τ => KB M z τ.2) := by
  unfold F_X12_looks
  refine pk_b1 pk_top (fun _ _ => ?_)
  refine pk_ite ?_ ?_
  · exact (W_X12_looks_43 (sub_tr (by decide +kernel) hM) h)
  · refine pk_b1 pk_top (fun _ _ => ?_)
    refine pk_ite ?_ ?_
    · exact (W_X12_looks_43 (sub_tr (by decide +kernel) hM) h)
    · refine pk_b1 pk_top (fun _ _ => ?_)
      refine pk_ite ?_ ?_
      · exact (W_X12_looks_43 (sub_tr (by decide +kernel) hM) h)
      · refine pk_nn ?_
        refine pk_ite ?_ ?_
        · exact (W_X12_looks_43 (sub_tr (by decide +kernel) hM) h)
        · refine pk_b1 (W_X12_keeps (sub_tr (by decide +kernel) hM) h) (fun s_1 (h_2 : KB M z s_1) => ?_)
          refine pk_nn ?_
          extract_lets +onlyGivenNames s_3
          have h_4 : KB M z s_3 := KB_mu h_2 (hM 89 (by decide +kernel))
          clear_value s_3
          exact pk_some h_4
theorem W_X12_sureOf_70 {M : Nat} {z : mG} {x1 : Int32} {x2 : Int64} {x4 : Int32} {s : mG} (hM : sub 0 M) (h : KB M z s) : pk (F_X12_sureOf_70 x1 x2 x4 s) (se (fun τ => KB M z τ.2.2.2) (fun τ => KB M z τ.2)) := by
  unfold F_X12_sureOf_70
  exact pk_some h
theorem W_X12_sureOf_B16 {M : Nat} {z : mG} {x1 : Int32} {x2 : Int64} {x4 : Int32} {s : mG} (hM : sub 0 M) (h : KB M z s) : pk (F_X12_sureOf_B16 x1 x2 x4 s) (se (fun τ => KB M z τ.2.2.2) (fun τ => KB M z τ.2)) := by
  unfold F_X12_sureOf_B16
  refine pk_ite ?_ ?_
  · exact pk_some h
  · refine pk_nn ?_
    refine pk_ite ?_ ?_
    · exact (W_X12_sureOf_70 (sub_tr (by decide +kernel) hM) h)
    · refine pk_nn ?_
      refine pk_b1 pk_top (fun _ _ => ?_)
      exact (W_X12_sureOf_70 (sub_tr (by decide +kernel) hM) h)
theorem W_X12_sureOf_L16 {M : Nat} {z : mG} {x1 : Int32} {x2 : Int64} {x4 : Int32} {s : mG} (hM : sub 0 M) (h : KB M z s) : pk (F_X12_sureOf_L16 x1 x2 x4 s) (fun τ => KB M z τ.2) := by
  unfold F_X12_sureOf_L16
  refine pk_whl (fun v => KB M z v.2.2.2) h (fun v hv => ?_)
  obtain ⟨y0, y1, y2, y3⟩ := v
  exact W_X12_sureOf_B16 (sub_tr (by decide +kernel) hM) hv
theorem W_X12_sureOf {M : Nat} {z : mG} {a1 : Int32} {s : mG} (hM : sub 237684487542793012780631851008 M) (h : KB M z s) : pk (F_X12_sureOf a1 s) (fun τ => KB M z τ.2) := by
  unfold F_X12_sureOf
  refine pk_b2 (W_X12_saysNow (sub_tr (by decide +kernel) hM) h) (fun _ s_1 (h_2 : KB M z s_1) => ?_)
  extract_lets +onlyGivenNames v_3
  clear_value v_3
  exact (W_X12_sureOf_L16 (sub_tr (by decide +kernel) hM) h_2)
theorem W_X12_next {M : Nat} {z : mG} {a1 : Int32} {s : mG} (hM : sub 237684487542793012780631851008 M) (h : KB M z s) : pk (F_X12_next a1 s) (fun τ => KB M z τ.2) := by
  unfold F_X12_next
  refine pk_b1 pk_top (fun _ _ => ?_)
  refine pk_ite ?_ ?_
  · exact pk_some h
  · refine pk_b2 (W_X12_sureOf (sub_tr (by decide +kernel) hM) h) (fun _ s_1 (h_2 : KB M z s_1) => ?_)
    refine pk_b1 pk_top (fun _ _ => ?_)
    refine pk_b1 pk_top (fun _ _ => ?_)
    exact pk_some h_2
theorem W_X12_looksAt_98 {M : Nat} {z : mG} {x2 : Int32} {x6 : Int32} {s : mG} (hM : sub 0 M) (h : KB M z s) : pk (F_X12_looksAt_98 x2 x6 s) (fun τ => KB M z τ.2) := by
  unfold F_X12_looksAt_98
  refine pk_ite ?_ ?_
  · exact pk_some h
  · exact pk_some h
theorem W_X12_looksAt_70 {M : Nat} {z : mG} {x2 : Int32} {x5 : Int32} {x6 : Int32} {x7 : Int32} {y1 : Int64} {y2 : Int32} {y3 : Int32} {s : mG} (hM : sub 0 M) (h : KB M z s) : pk (F_X12_looksAt_70 x2 x5 x6 x7 y1 y2 y3 s) (se (fun τ => KB M z τ.2.2.2.2.2) (fun τ => KB M z τ.2)) := by
  unfold F_X12_looksAt_70
  refine pk_b1 pk_top (fun _ _ => ?_)
  extract_lets +onlyGivenNames v_1
  clear_value v_1
  refine pk_b1 pk_top (fun _ _ => ?_)
  exact pk_some h
theorem W_X12_looksAt_B35 {M : Nat} {z : mG} {x2 : Int32} {x3 : Int64} {x5 : Int32} {x6 : Int32} {x7 : Int32} {s : mG} (hM : sub 0 M) (h : KB M z s) : pk (F_X12_looksAt_B35 x2 x3 x5 x6 x7 s) (se (fun τ => KB M z τ.2.2.2.2.2) (fun τ => KB M z τ.2)) := by
  unfold F_X12_looksAt_B35
  refine pk_ite ?_ ?_
  · refine pk_b1r ?_
    exact (W_X12_looksAt_98 (sub_tr (by decide +kernel) hM) h)
  · refine pk_ite ?_ ?_
    · refine pk_b1r ?_
      exact (W_X12_looksAt_98 (sub_tr (by decide +kernel) hM) h)
    · refine pk_b1 pk_top (fun _ _ => ?_)
      refine pk_ite ?_ ?_
      · exact (W_X12_looksAt_70 (sub_tr (by decide +kernel) hM) h)
      · exact (W_X12_looksAt_70 (sub_tr (by decide +kernel) hM) h)
theorem W_X12_looksAt_L35 {M : Nat} {z : mG} {x2 : Int32} {x3 : Int64} {x5 : Int32} {x6 : Int32} {x7 : Int32} {s : mG} (hM : sub 0 M) (h : KB M z s) : pk (F_X12_looksAt_L35 x2 x3 x5 x6 x7 s) (fun τ => KB M z τ.2) := by
  unfold F_X12_looksAt_L35
  refine pk_whl (fun v => KB M z v.2.2.2.2.2) h (fun v hv => ?_)
  obtain ⟨y0, y1, y2, y3, y4, y5⟩ := v
  exact W_X12_looksAt_B35 (sub_tr (by decide +kernel) hM) hv
end
