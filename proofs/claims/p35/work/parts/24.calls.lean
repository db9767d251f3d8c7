/-! the fixed things go along; calls; what a run of the small machine says of a real method -/
theorem m_nest_on : ∀ w ∈ m_nest, w.onTables = true := by decide +kernel
theorem m_nest_warm {s U : State} (hW : s.WarmedH U.vm) : ∀ w ∈ m_nest, va_Nw w s → va_Nw w U := by
  intro w hw h
  simp only [m_nest, List.mem_cons, List.not_mem_nil, or_false] at hw
  rcases hw with rfl | rfl | rfl | rfl | rfl | rfl | rfl | rfl | rfl | rfl | rfl | rfl | rfl | rfl | rfl <;> first | exact va_Nw.warmM hW h | exact va_Nw.warmF hW h
section FX
variable {ad : Nat → Nat} {base : Nat} {vF : Value} {dC : Nat → ClassId} {dI : Nat → Nat → Nat} {dA : Nat → Nat} {N : Nat} {xs : Nat → Int32}
theorem m_Fx_to {u U : State} {H H1 : Heap} (h : m_Fx ad base vF dC dI dA N xs u H) (hvm : u.vm.Alike U.vm) (hN : ∀ w ∈ m_nest, va_Nw w u → va_Nw w U) (hR : ∀ (o : String) (k : Nat) (t : String) (a : Nat), vk_R o k t a u → vk_R o k t a U) (hz : H.size ≤ H1.size) (hq : ∀ a : Nat, a < H.size → ¬ m_A base a → H1[a]? = H[a]?) : m_Fx ad base vF dC dI dA N xs U H1 := by
  obtain ⟨hK, hNw, hAO, ⟨hX, hXb, hXB⟩, hT5, hZ0, hZ1, hZ2, hStr, hRR, hbase, hvF, had⟩ := h
  have hbA : ¬ (m_A base) (ad 1000000) := fun q => by have : base ≤ ad 1000000 := q; omega
  refine ⟨hK.moved hvm, fun w hw => hN w hw (hNw w hw), hAO.moved hvm, ⟨(hX.moved hvm).kept (hq _ hXb hbA), by omega, hXB⟩, (hT5.moved hvm).kept hq, (hZ0.moved hvm).kept hq, (hZ1.moved hvm).kept hq, (hZ2.moved hvm).kept hq, fun k hk => ?_, fun k hk q hq2 => hR _ _ _ _ (hRR k hk q hq2), by omega, hvF, had⟩
  obtain ⟨g1, g2, g3, g4⟩ := hStr k hk
  exact ⟨(va_O.moved hvm g1).kept hq, (va_OF.moved hvm g2).kept hq, (va_OF.moved hvm g3).kept hq, (g4.moved hvm).kept hq⟩
theorem m_Fx_enter {s U : State} {H : Heap} {locs : List Loc} (h : m_Fx ad base vF dC dI dA N xs s s.heap) (hS : va_S (m_A base) s.heap H locs) (hU : U.heap = H) (hW : s.WarmedH U.vm) : m_Fx ad base vF dC dI dA N xs U U.heap := by
  rw [hU]
  exact m_Fx_to h hW.alike (m_nest_warm hW) (fun o k t a q => q.warm hW) hS.1 hS.2.1
theorem m_Fx_blind {U : State} {g : JFrame} {mk : MethodId} {a : Array Value} (h : m_Fx ad base vF dC dI dA N xs U U.heap) : m_Fx ad base vF dC dI dA N xs (U.calling g mk a) (U.calling g mk a).heap :=
  m_Fx_to (u := U) (U := U.calling g mk a) (H := U.heap) (H1 := (U.calling g mk a).heap) h (Vm.Alike.refl U.vm) (fun w hw q => va_Nw.same (u := U) (U := U.calling g mk a) (m_nest_on w hw) rfl q) (fun o k t b q => vk_R.same (u := U) (U := U.calling g mk a) rfl q) (Nat.le_refl _) (fun _ _ _ => rfl)
end FX
theorem m_op_mono {N : Nat} {xs : Nat → Int32} {ins : Instr} {aux : List Int} {pc pc' : Nat} {ls ls' : List (Option Value)} {st st' : List Value} {h h' : mH} (hop : m_op N xs ins aux pc ls st h = some (pc', ls', st', h')) : h.1.length ≤ h'.1.length ∧ m_sl h.1 ≤ m_sl h'.1 := by
  have e1 : ∀ {f : mF}, m_op1 ins aux pc ls st h = some f → f.2.2.2 = h := by
    intro f hf
    unfold m_op1 at hf
    repeat' (split at hf)
    all_goals first | (cases hf; rfl) | cases hf
  have e2 : ∀ {f : mF}, m_op2 ins pc ls st h = some f → f.2.2.2 = h := by
    intro f hf
    unfold m_op2 at hf
    repeat' (split at hf)
    all_goals first | (cases hf; rfl) | cases hf
  unfold m_op at hop
  split at hop
  · next f hf =>
    cases hop
    have := e1 hf
    simp only at this
    subst this
    exact ⟨Nat.le_refl _, Nat.le_refl _⟩
  · split at hop
    · next f hf =>
      cases hop
      have := e2 hf
      simp only at this
      subst this
      exact ⟨Nat.le_refl _, Nat.le_refl _⟩
    · have pf : ∀ {i c k : Nat} {kd : Int} {v : Value} {h2 : mH}, m_pf h i c k kd v = some h2 → h.1.length ≤ h2.1.length ∧ m_sl h.1 ≤ m_sl h2.1 := by
        intro i c k kd v h2 hv
        unfold m_pf at hv
        split at hv
        · next c' fs hs =>
          split at hv
          · split at hv
            · split at hv
              · cases hv; exact ⟨Nat.le_refl _, Nat.le_refl _⟩
              · split at hv
                · split at hv
                  · cases hv; exact ⟨Nat.le_refl _, Nat.le_refl _⟩
                  · cases hv
                · cases hv
            · split at hv
              · cases hv; exact ⟨Nat.le_refl _, Nat.le_refl _⟩
              · cases hv
            · split at hv
              · cases hv
                refine ⟨by simp, ?_⟩
                show m_sl h.1 ≤ m_sl (h.1.set i _)
                rw [m_sl_set hs (by simp [m_sl1])]
                exact Nat.le_refl _
              · cases hv
            · cases hv
          · cases hv
        · cases hv
      unfold m_op3 at hop
      split at hop
      all_goals (try (cases hop; done))
      · repeat' (split at hop)
        all_goals first | (cases hop; exact ⟨Nat.le_refl _, Nat.le_refl _⟩) | (cases hop; done)
      · split at hop
        · split at hop
          · next h2 hv => cases hop; exact pf hv
          · cases hop
        · cases hop
      · repeat' (split at hop)
        all_goals first | (cases hop; exact ⟨Nat.le_refl _, Nat.le_refl _⟩) | (cases hop; done)
      · repeat' (split at hop)
        all_goals first | (cases hop; exact ⟨Nat.le_refl _, Nat.le_refl _⟩) | (cases hop; done)
      · repeat' (split at hop)
        all_goals first | (cases hop; exact ⟨Nat.le_refl _, Nat.le_refl _⟩) | (cases hop; done)
      · repeat' (split at hop)
        all_goals first | (cases hop; exact ⟨Nat.le_refl _, Nat.le_refl _⟩) | (cases hop; done)
      · split at hop
        · split at hop
          · cases hop
          · cases hop; exact ⟨Nat.le_refl _, Nat.le_refl _⟩
        · cases hop
      · repeat' (split at hop)
        all_goals first | (cases hop; exact ⟨Nat.le_refl _, Nat.le_refl _⟩) | (cases hop; done)
      · repeat' (split at hop)
        all_goals first | (cases hop; exact ⟨Nat.le_refl _, Nat.le_refl _⟩) | (cases hop; done)
      · repeat' (split at hop)
        all_goals first | (cases hop; exact ⟨Nat.le_refl _, Nat.le_refl _⟩) | (cases hop; done)
      · split at hop
        · split at hop
          · cases hop
          · split at hop
            · cases hop
              exact ⟨by simp, Nat.le_of_eq (m_sl_set (by assumption) (by simp [m_sl1])).symm⟩
            · cases hop
        · cases hop
      · split at hop
        · split at hop
          · cases hop
            refine ⟨by simp, ?_⟩
            show m_sl h.1 ≤ m_sl (h.1 ++ _)
            rw [m_sl_app]; omega
          · cases hop
        · cases hop
      · split at hop
        · cases hop
        · split at hop
          · split at hop
            · cases hop
              refine ⟨by simp, ?_⟩
              show m_sl h.1 ≤ m_sl (h.1 ++ _)
              rw [m_sl_app]; omega
            · cases hop
              refine ⟨by simp, ?_⟩
              show m_sl h.1 ≤ m_sl (h.1 ++ _)
              rw [m_sl_app]; omega
            · cases hop
          · cases hop
      · split at hop
        · cases hop
        · split at hop
          · cases hop
            refine ⟨by simp, ?_⟩
            show m_sl h.1 ≤ m_sl (h.1 ++ _)
            rw [m_sl_app]; omega
          · cases hop
      · repeat' (split at hop)
        all_goals first | (cases hop; exact ⟨Nat.le_refl _, Nat.le_refl _⟩) | (cases hop; done)
      · unfold m_math at hop
        repeat' (split at hop)
        all_goals first | (cases hop; exact ⟨Nat.le_refl _, Nat.le_refl _⟩) | (cases hop; done)
theorem m_run_mono (tab : List mM) (N : Nat) (xs : Nat → Int32) : ∀ (n d : Nat) (e : mM) (pc : Nat) (ls : List (Option Value)) (st : List Value) (h : mH) (rv : Option Value) (h' : mH), m_run tab N xs n d e pc ls st h = some (rv, h') → h.1.length ≤ h'.1.length ∧ m_sl h.1 ≤ m_sl h'.1 := by
  intro n
  induction n with
  | zero => intro d e pc ls st h rv h' hr; cases hr
  | succ n ih =>
    intro d e pc ls st h rv h' hr
    unfold m_run at hr
    split at hr
    · cases hr
    · next ins aux hat =>
      split at hr
      · split at hr
        · cases hr; exact ⟨Nat.le_refl _, Nat.le_refl _⟩
        · cases hr
      · split at hr
        · split at hr
          · cases hr
          · split at hr
            · split at hr
              · next v h1 h2 =>
                have a1 := ih _ _ _ _ _ _ _ _ h2
                have a2 := ih _ _ _ _ _ _ _ _ hr
                exact ⟨Nat.le_trans a1.1 a2.1, Nat.le_trans a1.2 a2.2⟩
              · cases hr
            · cases hr
        · split at hr
          · next pc1 ls1 st1 h1 h2 =>
            have a1 := m_op_mono h2
            have a2 := ih _ _ _ _ _ _ _ _ hr
            exact ⟨Nat.le_trans a1.1 a2.1, Nat.le_trans a1.2 a2.2⟩
          · cases hr
/-- the entry's locals -/
theorem m_en_len (ad : Nat → Nat) {vF : Value} (hv : vF.category = 1) : ∀ As : List Value, (lg_sl (As.map (m_v ad vF))).length = (m_en As).length := by
  intro As
  induction As with
  | nil => rfl
  | cons a r ih =>
    have hc := m_v_cat (ad := ad) hv a
    simp only [List.map_cons, lg_sl, List.flatMap_cons, List.length_append] at ih ⊢
    rw [ih, hc]
    cases a <;> simp [m_en, Value.category] <;> omega
theorem m_en_lv (ad : Nat → Nat) {vF : Value} (hv : vF.category = 1) : ∀ (As : List Value) (i j : Nat) (v : Value), (m_en As)[j]? = some (some v) → (i + j, m_v ad vF v) ∈ lv_args i (As.map (m_v ad vF)) := by
  intro As
  induction As with
  | nil => intro i j v h; simp [m_en] at h
  | cons a r ih =>
    intro i j v h
    have hc := m_v_cat (ad := ad) hv a
    simp only [List.map_cons, lv_args, hc]
    have two : (m_en (a :: r)) = some a :: none :: m_en r → a.category = 2 → (i + j, m_v ad vF v) ∈ (i, m_v ad vF a) :: lv_args (if a.category = 2 then i + 2 else i + 1) (r.map (m_v ad vF)) := by
      intro e hc2
      rw [e] at h
      rw [if_pos hc2]
      match j, h with
      | 0, h => simp at h; subst h; exact List.mem_cons_self
      | 1, h => simp at h
      | j + 2, h =>
        have := ih (i + 2) j v (by simpa using h)
        rw [show i + 2 + j = i + (j + 2) by omega] at this
        exact List.mem_cons_of_mem _ this
    have one : (m_en (a :: r)) = some a :: m_en r → ¬ a.category = 2 → (i + j, m_v ad vF v) ∈ (i, m_v ad vF a) :: lv_args (if a.category = 2 then i + 2 else i + 1) (r.map (m_v ad vF)) := by
      intro e hc2
      rw [e] at h
      rw [if_neg hc2]
      match j, h with
      | 0, h => simp at h; subst h; exact List.mem_cons_self
      | j + 1, h =>
        have := ih (i + 1) j v (by simpa using h)
        rw [show i + 1 + j = i + (j + 1) by omega] at this
        exact List.mem_cons_of_mem _ this
    cases a <;> first | exact one rfl (by simp [Value.category]) | exact two rfl rfl
