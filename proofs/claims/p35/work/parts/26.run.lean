section RW
variable {ad : Nat → Nat} {base : Nat} {vF : Value} {dC : Nat → ClassId} {dI : Nat → Nat → Nat} {dA : Nat → Nat} {N : Nat} {xs : Nat → Int32} {tab : List mM}
/-- a run of n steps at most is the real one, whatever is wanted behind its end -/
def m_RunW (ad : Nat → Nat) (base : Nat) (vF : Value) (dC : Nat → ClassId) (dI : Nat → Nat → Nat) (dA : Nat → Nat) (N : Nat) (xs : Nat → Int32) (tab : List mM) (n : Nat) : Prop :=
  ∀ (d : Nat) (e : mM) (pc : Nat) (ls : List (Option Value)) (st : List Value) (h : mH) (rv : Option Value) (h' : mH), m_run tab N xs n d e pc ls st h = some (rv, h') → m_okC tab e →
    ∀ {p : Program} {l : Launch} {ev : Env} {R : Room} {s : State} {m : MethodId} {args : Array Value} {below : List Frame} {meth : Method} {c : Code} {Q : State → Prop} {H : Heap} {locs : List Loc} {cells slots : Nat} {lsA : Array Slot},
      p.tables.exec = Jvm.exec → c.code = e.2.2.1 → c.maxLocals = e.2.2.2.1 → s.vm.findClass e.2.1.cls = some m.cls → (e.2.1.name = "<init>" → meth.name = "<init>") → (∀ w ∈ m_TW, w.before args s = true) → m_Fx ad base vF dC dI dA N xs s s.heap → d + 1 ≤ R.frames ∧ 100 * d + 30 ≤ R.locals →
      va_P (dC, dI) m_cl (m_ws dA ad h) H → H.size = base + h.1.length → h.1.length ≤ 1000000 → va_S (m_A base) s.heap H locs → m_LH ad vF lsA e.2.2.2.1 ls → ls.length = e.2.2.2.1 → cells + (h'.1.length - h.1.length) ≤ R.cells → slots + (m_sl h'.1 - m_sl h.1) ≤ R.slots →
      (∀ (pc' : Nat) (ins : Instr) (aux : List Int) (st' : List Value) (H' : Heap) (locs' : List Loc) (cells' slots' : Nat) (lsA' : Array Slot), m_isRet ins = true → decode e.2.2.1 pc' = .ok (ins, m_len ins aux) → m_ret e.2.2.2.2.1 ins st' = some rv → va_P (dC, dI) m_cl (m_ws dA ad h') H' → H'.size = base + h'.1.length → h'.1.length ≤ 1000000 → va_S (m_A base) s.heap H' locs' → cells' + h.1.length = cells + h'.1.length → slots' + m_sl h.1 = slots + m_sl h'.1 → W p l ev R s m args below meth c H' locs' cells' slots' Q (F0 m pc' lsA' (st'.map (m_v ad vF)))) →
      W p l ev R s m args below meth c H locs cells slots Q (F0 m pc lsA (st.map (m_v ad vF)))
/-- so a method that is run from its entry has its contract -/
theorem m_met_of {n : Nat} (hR : m_RunW ad base vF dC dI dA N xs tab n) {d : Nat} {y : mM} {As : List Value} {h : mH} {rv : Option Value} {h' : mH} (hr : m_run tab N xs n d y 0 (m_en As ++ List.replicate (y.2.2.2.1 - (m_en As).length) none) [] h = some (rv, h')) (hH : m_okH y) (hC : m_okC tab y) (hl : (m_en As).length ≤ y.2.2.2.1) (l : Launch) :
    m_Met ad base vF dC dI dA N xs l d y As h rv h' := by
  have hmono := m_run_mono tab N xs _ _ _ _ _ _ _ _ _ hr
  refine Met.ofW (cc := y.2.2.1) (maxL := y.2.2.2.1) (ret := y.2.2.2.2.1) hH.1 rfl ?_
  intro p e s m args below meth c s₁ B hml hv
  obtain ⟨rfl, hF, hP, hsz, hlen⟩ := hv
  have hts0 := atoms_spec (ws := m_wsy y) B.pre
  have hown : s.vm.findClass y.2.1.cls = some m.cls := findClass_of_methodNamed B.named
  have hlocks := B.notSynchronized
  have hrt := B.returns
  have hx := B.exec
  have hb := B.bytes
  have hvF : vF.category = 1 := hF.2.2.2.2.2.2.2.2.2.2.2.1
  have hlen2 := m_en_len ad hvF As
  have hS : va_S (m_A base) s.heap s.heap [] := va_S.rf
  have hL := lv_entry (As.map (m_v ad vF)) (n := y.2.2.2.1) (by omega)
  rw [lg_entry_eq]
  generalize (lg_sl (As.map (m_v ad vF)) ++ List.replicate (y.2.2.2.1 - (lg_sl (As.map (m_v ad vF))).length) Slot.unset).toArray = lsA at hL ⊢
  have hLH : m_LH ad vF lsA y.2.2.2.1 (m_en As ++ List.replicate (y.2.2.2.1 - (m_en As).length) none) := by
    refine m_LH.of hL fun i v hi => ?_
    by_cases hlt : i < (m_en As).length
    · rw [List.getElem?_append_left hlt] at hi
      simpa using m_en_lv ad hvF As 0 i v hi
    · rw [List.getElem?_append_right (by omega), List.getElem?_replicate] at hi
      split at hi <;> cases hi
  refine hR d y 0 _ [] h rv h' hr hC hx hb hml hown (fun q => (name_of_methodNamed B.named B.method).1.trans q) (fun w hw => hts0 w (List.mem_cons_of_mem _ hw)) hF ⟨Nat.le_refl _, Nat.le_refl _⟩ hP hsz hlen hS hLH (by simp; omega) (by show 0 + _ ≤ h'.1.length - h.1.length; omega) (by show 0 + _ ≤ m_sl h'.1 - m_sl h.1; omega) ?_
  intro pc' ins aux st' H' locs' cells' slots' lsA' hisr hd hret hP' hsz' hlen' hS' hc hs
  obtain rfl : cells' = h'.1.length - h.1.length := by omega
  obtain rfl : slots' = m_sl h'.1 - m_sl h.1 := by omega
  have fin : ∀ {v : Option Value}, v = rv.map (m_v ad vF) → ∀ t : State, t.heap = H' → s.WarmedH t.vm → m_Qw ad base vF dC dI dA rv h' (As.map (m_v ad vF)).toArray s (.returned v) t := fun e t ht hW => ⟨by rw [e], by rw [ht]; exact hP', by rw [ht]; exact hsz', hlen', hS'.F ht⟩
  unfold m_ret at hret
  split at hret
  · split at hret
    · next hr0 =>
      cases hret
      exact W.vret hx hb (by rw [hrt]; exact hr0) (fin rfl) hS'.2.2 hd
    · cases hret
  · next v =>
    split at hret
    · next hr0 =>
      cases hret
      exact W.zret hx hb (by rw [hrt]; exact hr0) rfl (fin rfl) hS'.2.2 hd
    · next hr0 =>
      split at hret
      · next hv =>
        cases hret
        exact W.zret hx hb (by rw [hrt]; exact hr0) (by rcases hv with rfl | rfl <;> decide) (fin rfl) hS'.2.2 hd
      · cases hret
    · next hr0 =>
      split at hret
      · next hv =>
        cases hret
        exact W.zret hx hb (by rw [hrt]; exact hr0) (by simp only [narrow, hv]) (fin rfl) hS'.2.2 hd
      · cases hret
    · next hr0 =>
      split at hret
      · next hv =>
        cases hret
        exact W.zret hx hb (by rw [hrt]; exact hr0) (by simp only [narrow, hv]) (fin rfl) hS'.2.2 hd
      · cases hret
    · cases hret
  · next v =>
    split at hret
    · next hr0 =>
      cases hret
      exact W.lret hx hb (by rw [hrt]; exact hr0) (fin rfl) hS'.2.2 hd
    · cases hret
  · next j =>
    split at hret
    · next o hr0 =>
      cases hret
      exact W.aret hx hb (by rw [hrt]; exact hr0) (Or.inl ⟨_, rfl⟩) (Or.inr ⟨_, rfl⟩) (fin rfl) hS'.2.2 hd
    · cases hret
  · split at hret
    · next o hr0 =>
      cases hret
      exact W.aret hx hb (by rw [hrt]; exact hr0) (Or.inl ⟨_, rfl⟩) (Or.inl rfl) (fin rfl) hS'.2.2 hd
    · cases hret
  · cases hret
theorem m_run_W (hT : m_okT tab) : ∀ n, m_RunW ad base vF dC dI dA N xs tab n := by
  intro n
  induction n with
  | zero => intro d e pc ls st h rv h' hr; cases hr
  | succ n ih =>
    intro d e pc ls st h rv h' hr hC p l ev R s m args below meth c Q H locs cells slots lsA hx hb hml hown hnm hts hF hroom hP hsz hlen hS hLH hlsl hcells hslots kk
    unfold m_run at hr
    split at hr
    · cases hr
    · next ins aux hat =>
      obtain ⟨hd, hok⟩ := hC _ (m_at_in hat)
      split at hr
      · next hisr =>
        split at hr
        · next v hret =>
          cases hr
          exact kk pc ins aux st H locs cells slots lsA hisr hd hret hP hsz hlen hS rfl rfl
        · cases hr
      · split at hr
        · next y k hcall =>
          split at hr
          · cases hr
          · next d' =>
            split at hr
            · next hcond =>
              obtain ⟨hk, hcat, hrecv, hel⟩ := hcond
              split at hr
              · next v h1 hrun =>
                have hy : y ∈ tab := by
                  unfold m_call at hcall
                  split at hcall
                  · split at hcall
                    · next e1 he1 =>
                      split at hcall
                      · cases hcall; exact List.mem_of_getElem? he1
                      · cases hcall
                    · cases hcall
                  · split at hcall
                    · next e1 he1 =>
                      split at hcall
                      · cases hcall; exact List.mem_of_getElem? he1
                      · cases hcall
                    · cases hcall
                  · split at hcall
                    · cases hcall
                    · split at hcall
                      · next e1 he1 =>
                        split at hcall
                        · cases hcall; exact List.mem_of_getElem? he1
                        · cases hcall
                      · cases hcall
                  · cases hcall
                have hM := m_met_of ih hrun (hT y hy).1 (hT y hy).2 hel l
                have m1 := m_run_mono tab N xs _ _ _ _ _ _ _ _ _ hrun
                have m2 := m_run_mono tab N xs _ _ _ _ _ _ _ _ _ hr
                refine m_call_ok (tab := tab) (own := e.2.1.cls) (nm := e.2.1.name) (nL := e.2.2.2.1) hcall hd hok hT hx hb hml hLH.1 hown hts hF hM hk hcat hrecv hP hsz hlen hS m1 (by omega) (by omega) ⟨by omega, by omega⟩ fun H' locs' cells' slots' hP' hsz' hlen' hS' hc hs => ?_
                refine ih (d' + 1) e (pc + 3) ls (v.toList ++ st.drop k) h1 rv h' hr hC hx hb hml hown hnm hts hF hroom hP' hsz' hlen' hS' hLH hlsl (by omega) (by omega) ?_
                intro pc2 ins2 aux2 st2 H2 locs2 cells2 slots2 lsA2 a1 a2 a3 a4 a5 a6 a7 a8 a9
                exact kk pc2 ins2 aux2 st2 H2 locs2 cells2 slots2 lsA2 a1 a2 a3 a4 a5 a6 a7 (by omega) (by omega)
              · cases hr
            · cases hr
        · split at hr
          · next pc1 ls1 st1 h1 hop =>
            have m1 := m_op_mono hop
            have m2 := m_run_mono tab N xs _ _ _ _ _ _ _ _ _ hr
            have go : ∀ (H' : Heap) (locs' : List Loc) (cells' slots' : Nat) (lsA' : Array Slot), ls1.length = e.2.2.2.1 → m_LH ad vF lsA' e.2.2.2.1 ls1 → va_P (dC, dI) m_cl (m_ws dA ad h1) H' → H'.size = base + h1.1.length → h1.1.length ≤ 1000000 → va_S (m_A base) s.heap H' locs' → cells' + h.1.length = cells + h1.1.length → slots' + m_sl h.1 = slots + m_sl h1.1 → W p l ev R s m args below meth c H' locs' cells' slots' Q (F0 m pc1 lsA' (st1.map (m_v ad vF))) := by
              intro H' locs' cells' slots' lsA' hll hLH' hP' hsz' hlen' hS' hc hs
              refine ih d e pc1 ls1 st1 h1 rv h' hr hC hx hb hml hown hnm hts hF hroom hP' hsz' hlen' hS' hLH' hll (by omega) (by omega) ?_
              intro pc2 ins2 aux2 st2 H2 locs2 cells2 slots2 lsA2 a1 a2 a3 a4 a5 a6 a7 a8 a9
              exact kk pc2 ins2 aux2 st2 H2 locs2 cells2 slots2 lsA2 a1 a2 a3 a4 a5 a6 a7 (by omega) (by omega)
            unfold m_op at hop
            split at hop
            · next f hf =>
              cases hop
              exact m_op1_ok (own := e.2.1.cls) (nm := e.2.1.name) hf hd hok hx hb hown hts hF hlsl hLH fun e1 e2 lsA' e3 => by
                subst e1
                exact go H locs cells slots lsA' e2 e3 hP hsz hlen hS rfl rfl
            · split at hop
              · next f hf =>
                cases hop
                exact m_op2_ok (own := e.2.1.cls) (nm := e.2.1.name) hf hd hok hx hb fun e1 e2 => by
                  subst e1
                  subst e2
                  exact go H locs cells slots lsA hlsl hLH hP hsz hlen hS rfl rfl
              · refine m_op3_ok (own := e.2.1.cls) (nm := e.2.1.name) hop hd hok hx hb (by rw [hml]; exact hLH.1) hown hts hF hnm hP hsz hlen hS (by omega) (by omega) ⟨by omega, by omega⟩ fun H' locs' cells' slots' e2 hP' hsz' hlen' hS' hc hs => ?_
                subst e2
                exact go H' locs' cells' slots' lsA hlsl hLH hP' hsz' hlen' hS' hc hs
          · cases hr
end RW
