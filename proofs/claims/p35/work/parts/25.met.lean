/-! WHAT A RUN OF THE SMALL MACHINE SAYS: the real method, from any heap that holds the same, comes to the same end -/
theorem m_at_in {cd : List mI} {pc : Nat} {ins : Instr} {aux : List Int} (h : m_at cd pc = some (ins, aux)) : (pc, ins, aux) ∈ cd := by
  induction cd with
  | nil => cases h
  | cons a r ih =>
    obtain ⟨q, i, x⟩ := a
    simp only [m_at] at h
    split at h
    · next hq => cases h; subst hq; exact List.mem_cons_self
    · exact List.mem_cons_of_mem _ (ih h)
def m_wsy (y : mM) : List Cond := .code y.2.1 y.2.2.1 y.2.2.2.1 y.2.2.2.2.1 :: m_TW
theorem m_good {w : Cond} (h : w ∈ m_TW) : w ∈ m_TW ∧ ((w.onTables && w.keeps) = true ∨ ∃ ty, w = .arrayClass ty) := ⟨h, good_of_word (List.mem_filter.mp h).2⟩
theorem m_goodIn {ws : List Cond} (h : ∀ w ∈ ws, w ∈ m_TW) : GoodIn m_TW ws := fun w hw => m_good (h w hw)
def m_rm (d mc ms : Nat) : Room := { frames := d + 1, cells := mc, slots := ms, locals := 100 * d + 30 }
section MET
variable {ad : Nat → Nat} {base : Nat} {vF : Value} {dC : Nat → ClassId} {dI : Nat → Nat → Nat} {dA : Nat → Nat} {N : Nat} {xs : Nat → Int32} {tab : List mM}
/-- the world at a method's start .. -/
def m_Pw (ad : Nat → Nat) (base : Nat) (vF : Value) (dC : Nat → ClassId) (dI : Nat → Nat → Nat) (dA : Nat → Nat) (N : Nat) (xs : Nat → Int32) (h : mH) (U : State) : Prop := m_Fx ad base vF dC dI dA N xs U U.heap ∧ va_P (dC, dI) m_cl (m_ws dA ad h) U.heap ∧ U.heap.size = base + h.1.length ∧ h.1.length ≤ 1000000
/-- .. and at its end -/
def m_Qw (ad : Nat → Nat) (base : Nat) (vF : Value) (dC : Nat → ClassId) (dI : Nat → Nat → Nat) (dA : Nat → Nat) (rv : Option Value) (h' : mH) : Array Value → State → Outcome → State → Prop := fun _ st o t => o = .returned (rv.map (m_v ad vF)) ∧ va_P (dC, dI) m_cl (m_ws dA ad h') t.heap ∧ t.heap.size = base + h'.1.length ∧ h'.1.length ≤ 1000000 ∧ va_F (m_A base) st t
def m_Met (ad : Nat → Nat) (base : Nat) (vF : Value) (dC : Nat → ClassId) (dI : Nat → Nat → Nat) (dA : Nat → Nat) (N : Nat) (xs : Nat → Int32) (l : Launch) (d : Nat) (y : mM) (As : List Value) (h : mH) (rv : Option Value) (h' : mH) : Prop :=
  Met l y.2.1 (m_wsy y) (m_rm d (h'.1.length - h.1.length) (m_sl h'.1 - m_sl h.1)) (va_Pc (As.map (m_v ad vF)) (m_Pw ad base vF dC dI dA N xs h)) (m_Qw ad base vF dC dI dA rv h') (h'.1.length - h.1.length) (m_sl h'.1 - m_sl h.1) (m_A base)
theorem m_Pw_blind (As : List Value) (h : mH) : FrameBlind (va_Pc (As.map (m_v ad vF)) (m_Pw ad base vF dC dI dA N xs h)) := fun a U g mk q => ⟨q.1, m_Fx_blind q.2.1, q.2.2.1, q.2.2.2.1, q.2.2.2.2⟩
end MET
section MW
variable {p : Program} {l : Launch} {ev : Env} {R : Room} {s : State} {m : MethodId} {args : Array Value} {below : List Frame} {meth : Method} {c : Code} {H : Heap} {locs : List Loc} {cells slots : Nat} {Q : State → Prop}
variable {ad : Nat → Nat} {base : Nat} {vF : Value} {dC : Nat → ClassId} {dI : Nat → Nat → Nat} {dA : Nat → Nat} {N : Nat} {xs : Nat → Int32} {tab : List mM}
theorem m_callW {mc ms pc : Nat} {ls : Array Slot} {st0 rest : List Value} {Qa : State → Outcome → State → Prop} {free : Addr → Prop} (hr : va_Run p l ev R s m args below meth c H locs cells slots mc ms (F0 m pc ls st0) rest Qa free)
    (kk : ∀ (v : Option Value) (st₀ t : State) (L : List Loc), st₀.heap = H → Qa st₀ (.returned v) t → (∀ q ∈ L, free q.base) → W p l ev R s m args below meth c t.heap (locs ++ L) (cells + mc) (slots + ms) Q (F0 m (pc + 3) ls (v.toList ++ rest))) : W p l ev R s m args below meth c H locs cells slots Q (F0 m pc ls st0) := by
  intro T hT X
  obtain ⟨v, st₀, t, T', L, h0, X', hL, e1, e2, hq, st⟩ := hr T hT X
  obtain ⟨t2, a1, b1⟩ := kk v st₀ t L h0 hq hL T' e1 X'
  exact ⟨t2, st t2 a1, b1⟩
/-- the call of a method that has its contract -/
theorem m_call_ok {cc : ByteArray} {own nm : String} {pc nL d k : Nat} {lsA : Array Slot} {st : List Value} {h h1 : mH} {ins : Instr} {aux : List Int} {y : mM} {rv : Option Value}
    (hcall : m_call tab ins aux = some (y, k)) (hd : decode cc pc = .ok (ins, m_len ins aux)) (hok : m_okI own nm tab pc ins aux = true) (hT : m_okT tab) (hx : p.tables.exec = Jvm.exec) (hb : c.code = cc) (hml : c.maxLocals = nL) (hlsz : lsA.size = nL) (hown : s.vm.findClass own = some m.cls) (hts : ∀ w ∈ m_TW, w.before args s = true) (hF : m_Fx ad base vF dC dI dA N xs s s.heap)
    (hM : m_Met ad base vF dC dI dA N xs l d y (st.take k).reverse h rv h1) (hk : k ≤ st.length) (hcat : ((st.drop k).map fun v => v.category).sum ≤ 8) (hrecv : m_recv h y.1 y.2.2.2.2.2.1 (st.take k).reverse = true)
    (hP : va_P (dC, dI) m_cl (m_ws dA ad h) H) (hsz : H.size = base + h.1.length) (hlen : h.1.length ≤ 1000000) (hS : va_S (m_A base) s.heap H locs) (hmono : h.1.length ≤ h1.1.length ∧ m_sl h.1 ≤ m_sl h1.1) (hcells : cells + (h1.1.length - h.1.length) ≤ R.cells) (hslots : slots + (m_sl h1.1 - m_sl h.1) ≤ R.slots) (hroom : d + 2 ≤ R.frames ∧ 100 * (d + 1) + 30 ≤ R.locals)
    (kk : ∀ (H' : Heap) (locs' : List Loc) (cells' slots' : Nat), va_P (dC, dI) m_cl (m_ws dA ad h1) H' → H'.size = base + h1.1.length → h1.1.length ≤ 1000000 → va_S (m_A base) s.heap H' locs' → cells' + h.1.length = cells + h1.1.length → slots' + m_sl h.1 = slots + m_sl h1.1 → W p l ev R s m args below meth c H' locs' cells' slots' Q (F0 m (pc + 3) lsA ((rv.toList ++ st.drop k).map (m_v ad vF)))) :
    W p l ev R s m args below meth c H locs cells slots Q (F0 m pc lsA (st.map (m_v ad vF))) := by
  have hvF : vF.category = 1 := hF.2.2.2.2.2.2.2.2.2.2.2.1
  have hcat' : (((st.drop k).map (m_v ad vF)).map fun v => v.category).sum ≤ 8 := by
    rw [List.map_map, show ((fun v : Value => v.category) ∘ m_v ad vF) = (fun v => v.category) from funext fun w => m_v_cat hvF w]
    exact hcat
  have hst : st.map (m_v ad vF) = ((st.take k).reverse.map (m_v ad vF)).reverse ++ (st.drop k).map (m_v ad vF) := by
    rw [List.map_reverse, List.reverse_reverse, ← List.map_append, List.take_append_drop]
  have hPre : ∀ U : State, U.heap = H → s.WarmedH U.vm → va_Pc ((st.take k).reverse.map (m_v ad vF)) (m_Pw ad base vF dC dI dA N xs h) ((st.take k).reverse.map (m_v ad vF)).toArray U := fun U hU hW => ⟨rfl, m_Fx_enter hF hS hU hW, by rw [hU]; exact hP, by rw [hU]; exact hsz, hlen⟩
  have hrest : ∀ {mc ms : Nat}, mc = h1.1.length - h.1.length → ms = m_sl h1.1 - m_sl h.1 → va_Run p l ev R s m args below meth c H locs cells slots mc ms (F0 m pc lsA (st.map (m_v ad vF))) ((st.drop k).map (m_v ad vF)) (m_Qw ad base vF dC dI dA rv h1 ((st.take k).reverse.map (m_v ad vF)).toArray) (m_A base) → W p l ev R s m args below meth c H locs cells slots Q (F0 m pc lsA (st.map (m_v ad vF))) := by
    intro mc ms e1 e2 hr
    subst e1; subst e2
    refine m_callW hr fun v st₀ t L h0 hq hL => ?_
    obtain ⟨q1, q2, q3, q4, q5⟩ := hq
    cases q1
    rw [va_F, h0] at q5
    have h9 := kk t.heap (locs ++ L) (cells + (h1.1.length - h.1.length)) (slots + (m_sl h1.1 - m_sl h.1)) q2 q3 q4 ⟨Nat.le_trans hS.1 q5.1, fun q z1 z2 => by rw [q5.2 q (Nat.lt_of_lt_of_le z1 hS.1) z2]; exact hS.2.1 q z1 z2, fun q hq => by
      rcases List.mem_append.mp hq with z | z
      · exact hS.2.2 q z
      · exact hL q z⟩ (by omega) (by omega)
    cases rv <;> simpa using h9
  unfold m_call at hcall
  split at hcall
  · -- static
    next idx yi n pl nest =>
    split at hcall
    · next e hy =>
      split at hcall
      · next hk0 =>
        simp only [Option.some.injEq, Prod.mk.injEq] at hcall
        obtain ⟨rfl, rfl⟩ := hcall
        obtain ⟨⟨o1, o2, o3, o4, o5, o6, o7, o8, o9, o10⟩, -⟩ := hT e (List.mem_of_getElem? hy)
        simp only [m_okI, hy, Bool.and_eq_true, decide_eq_true_eq] at hok
        obtain ⟨hlink, hn⟩ := hok
        have hlenAs : ((st.take n.toNat).reverse.map (m_v ad vF)).length = n.toNat := by simp [hk]
        have hR : (m_rm d (h1.1.length - h.1.length) (m_sl h1.1 - m_sl h.1)).frames + 1 ≤ R.frames ∧ 8 + (e.2.2.2.1 + 11) + (m_rm d (h1.1.length - h.1.length) (m_sl h1.1 - m_sl h.1)).locals ≤ R.locals := by
          simp only [m_rm]; omega
        have hall : ∀ w ∈ m_wsy e, w ∈ m_TW := fun w hw => by
          rcases List.mem_cons.mp hw with rfl | hw
          · exact o4
          · exact hw
        split at hlink
        · refine hrest rfl rfl (va_runS (cc := cc) (nL := nL) (own := own) (Ts := m_TW) ⟨hx, hb, hml, hown, hts⟩ hM (va_cwS (ws' := m_TW) n.toNat hts (m_goodIn fun w hw => ?_) rfl rfl rfl ⟨o2.1, o2.2, hn⟩ hR) ⟨m_Pw_blind _ _, hPre⟩ rfl hlenAs hlsz (by rw [hst]) (by show 2 * 0 + _ ≤ 8; omega) hd ⟨hcells, hslots⟩)
          unfold va_wsS at hw
          rcases List.mem_append.mp hw with hw | hw
          · simp only [List.mem_cons, List.not_mem_nil, or_false] at hw
            rcases hw with rfl | rfl | rfl
            · exact m_w_in hlink
            · exact o6 hk0
            · exact o5
          · exact hall w hw
        · refine hrest rfl rfl (va_runSN (cc := cc) (nL := nL) (own := own) (Ts := m_TW) (host := "IsHeIn") ⟨hx, hb, hml, hown, hts⟩ hM ⟨va_cnB (ws' := m_TW) n.toNat hts (m_goodIn hall) rfl rfl rfl (hF.2.1 _ (m_nw_in hlink)) (hts _ o5) ⟨o2.1, o2.2, hn⟩ hR, hts _ (o6 hk0), trivial⟩ ⟨m_Pw_blind _ _, hPre⟩ rfl hlenAs hlsz (by rw [hst]) (by show 2 * 0 + _ ≤ 8; omega) hd ⟨hcells, hslots⟩)
      · cases hcall
    · cases hcall
  · -- virtual
    next idx yi n pl nest =>
    split at hcall
    · next e hy =>
      split at hcall
      · next hk1 =>
        simp only [Option.some.injEq, Prod.mk.injEq] at hcall
        obtain ⟨rfl, rfl⟩ := hcall
        obtain ⟨⟨o1, o2, o3, o4, o5, o6, o7, o8, o9, o10⟩, -⟩ := hT e (List.mem_of_getElem? hy)
        simp only [m_okI, hy, Bool.and_eq_true, decide_eq_true_eq] at hok
        obtain ⟨⟨-, hlink⟩, hn⟩ := hok
        have hne0 : e.1 ≠ 0 := by omega
        have hR : (m_rm d (h1.1.length - h.1.length) (m_sl h1.1 - m_sl h.1)).frames + 1 ≤ R.frames ∧ 8 + (e.2.2.2.1 + 11) + (m_rm d (h1.1.length - h.1.length) (m_sl h1.1 - m_sl h.1)).locals ≤ R.locals := by
          simp only [m_rm]; omega
        -- the receiver
        generalize hAs : (st.take (n.toNat + 1)).reverse = As at hrecv hM hPre hst hrest
        have hAl : As.length = n.toNat + 1 := by rw [← hAs]; simp [hk]
        unfold m_recv at hrecv
        rw [if_neg hne0] at hrecv
        match As, hrecv, hAl with
        | .ref j :: As', hrecv, hAl =>
          simp only at hrecv
          have hrc : ∃ cellB : Cell, H[ad j]? = some cellB ∧ cellB.vm.isStatics = false ∧ s.vm.findClass e.2.1.cls = some cellB.cls := by
            rcases o10 hne0 with ⟨r1, r2⟩ | ⟨q, r1, r2, r3⟩
            · rw [if_pos r1] at hrecv
              obtain ⟨j', rfl, hj'⟩ := m_key1 j (of_decide_eq_true hrecv)
              obtain ⟨g1, -⟩ := hF.2.2.2.2.2.2.2.2.1 j' hj'
              obtain ⟨cell, c1, c2, c3, -⟩ := g1.kept hS.2.1
              exact ⟨cell, c1, c2, by rw [r2]; exact c3⟩
            · rw [if_neg r3] at hrecv
              split at hrecv
              · next ci fs hs =>
                have hci : ci = e.2.2.2.2.2.1 := by simpa using hrecv
                subst hci
                rw [← r2]
                exact va_recv hF.1 hP r1 (m_ws_get hs)
              · cases hrecv
          refine hrest rfl rfl (va_runV (cc := cc) (nL := nL) (own := own) (Ts := m_TW) (C := e.2.1.cls) (b := ad j) (As := As'.map (m_v ad vF)) ⟨hx, hb, hml, hown, hts⟩ hM (cwV (ws' := m_TW) n.toNat hts (m_goodIn fun w hw => ?_) rfl rfl rfl ⟨rfl, o2.1, o2.2, hn⟩ hR) ⟨m_Pw_blind _ _, hrc, hPre⟩ rfl (by simpa using hAl) hlsz (by rw [hst]; simp [m_v]) (by show 2 * 0 + _ ≤ 8; omega) hd ⟨hcells, hslots⟩)
          unfold wsV at hw
          rcases List.mem_append.mp hw with hw | hw
          · simp only [List.mem_cons, List.not_mem_nil, or_false] at hw
            rcases hw with rfl | rfl | rfl | rfl
            · exact m_w_in hlink
            · exact o7 hne0
            · exact o8 hk1
            · exact o5
          · rcases List.mem_cons.mp hw with rfl | hw
            · exact o4
            · exact hw
        | .int _ :: _, hrecv, hAl => cases hrecv
        | .long _ :: _, hrecv, hAl => cases hrecv
        | .float _ :: _, hrecv, hAl => cases hrecv
        | .double _ :: _, hrecv, hAl => cases hrecv
        | .null :: _, hrecv, hAl => cases hrecv
        | .retAddr _ :: _, hrecv, hAl => cases hrecv
        | [], hrecv, hAl => cases hrecv
      · cases hcall
    · cases hcall
  · -- a constructor
    next idx yi n pl nest =>
    split at hcall
    · cases hcall
    · next hy0 =>
      split at hcall
      · next e hy =>
        split at hcall
        · next hk2 =>
          simp only [Option.some.injEq, Prod.mk.injEq] at hcall
          obtain ⟨rfl, rfl⟩ := hcall
          obtain ⟨⟨o1, o2, o3, o4, o5, o6, o7, o8, o9, o10⟩, -⟩ := hT e (List.mem_of_getElem? hy)
          have hok2 : (if nest = 0 then m_w pl (.methodLink own idx e.2.1) else m_nw pl (.methodLinkNest own idx e.2.1 "IsHeIn")) = true ∧ (parseMethodDescriptor e.2.1.desc).map (fun d => d.parameters.length) = some n.toNat := by
            simp only [m_okI, if_neg hy0, hy, Bool.and_eq_true, decide_eq_true_eq] at hok
            exact hok
          obtain ⟨hlink, hn⟩ := hok2
          have hne0 : e.1 ≠ 0 := by omega
          have hR : (m_rm d (h1.1.length - h.1.length) (m_sl h1.1 - m_sl h.1)).frames + 1 ≤ R.frames ∧ 8 + (e.2.2.2.1 + 11) + (m_rm d (h1.1.length - h.1.length) (m_sl h1.1 - m_sl h.1)).locals ≤ R.locals := by
            simp only [m_rm]; omega
          have hall : ∀ w ∈ m_wsy e, w ∈ m_TW := fun w hw => by
            rcases List.mem_cons.mp hw with rfl | hw
            · exact o4
            · exact hw
          obtain ⟨hn1, hn2⟩ := o9 hk2
          have hws : m_wsy e = Cond.code e.2.1 e.2.2.1 e.2.2.2.1 none :: m_TW := by unfold m_wsy; rw [hn2]
          generalize hAs : (st.take (n.toNat + 1)).reverse = As at hrecv hM hPre hst hrest
          have hAl : As.length = n.toNat + 1 := by rw [← hAs]; simp [hk]
          unfold m_recv at hrecv
          rw [if_neg hne0] at hrecv
          match As, hrecv, hAl with
          | .ref j :: As', hrecv, hAl =>
            split at hlink
            · exact hrest rfl rfl (va_runI (cc := cc) (nL := nL) (own := own) (Ts := m_TW) (b := ad j) (As := As'.map (m_v ad vF)) ⟨hx, hb, hml, hown, hts⟩ hM (cwI (bytes := e.2.2.1) (maxL := e.2.2.2.1) (ws' := m_TW) n.toNat hts (m_goodIn hall) hws rfl rfl (hts _ o5) (hts _ (m_w_in hlink)) (hts _ (o7 hne0)) hn1 ⟨o2.1, o2.2, hn⟩ hR) ⟨m_Pw_blind _ _, hPre⟩ rfl (by simpa using hAl) hlsz (by rw [hst]; simp [m_v]) (by show 2 * 0 + _ ≤ 8; omega) hd ⟨hcells, hslots⟩)
            · exact hrest rfl rfl (va_runIN (cc := cc) (nL := nL) (own := own) (Ts := m_TW) (host := "IsHeIn") (b := ad j) (As := As'.map (m_v ad vF)) ⟨hx, hb, hml, hown, hts⟩ hM ⟨va_cnB (bytes := e.2.2.1) (maxL := e.2.2.2.1) (ws' := m_TW) n.toNat hts (m_goodIn hall) hws rfl rfl (hF.2.1 _ (m_nw_in hlink)) (hts _ o5) ⟨o2.1, o2.2, hn⟩ hR, hn1, hts _ (o7 hne0)⟩ ⟨m_Pw_blind _ _, hPre⟩ rfl (by simpa using hAl) hlsz (by rw [hst]; simp [m_v]) (by show 2 * 0 + _ ≤ 8; omega) hd ⟨hcells, hslots⟩)
          | .int _ :: _, hrecv, hAl => cases hrecv
          | .long _ :: _, hrecv, hAl => cases hrecv
          | .float _ :: _, hrecv, hAl => cases hrecv
          | .double _ :: _, hrecv, hAl => cases hrecv
          | .null :: _, hrecv, hAl => cases hrecv
          | .retAddr _ :: _, hrecv, hAl => cases hrecv
          | [], hrecv, hAl => cases hrecv
        · cases hcall
      · cases hcall
  · cases hcall
end MW
