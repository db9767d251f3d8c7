theorem m_obj1 : Cond.instanceMethod Lib.objectInit ∈ m_TW := m_TW_in (i := 153) (by decide +kernel) (by decide +kernel)
theorem m_obj2 : Cond.code Lib.objectInit ⟨#[0xb1]⟩ 1 none ∈ m_TW := m_TW_in (i := 154) (by decide +kernel) (by decide +kernel)
theorem m_ma0 : Cond.initialized "java/lang/Math" ∈ m_TW := List.mem_filter.mpr ⟨by decide +kernel, by decide +kernel⟩
theorem m_ma1 : Cond.static Lib.Math.abs.name ∈ m_TW := List.mem_filter.mpr ⟨by decide +kernel, by decide +kernel⟩
theorem m_ma2 : Cond.code Lib.Math.abs.name Lib.Math.abs.code 1 (some .int) ∈ m_TW := List.mem_filter.mpr ⟨by decide +kernel, by decide +kernel⟩
theorem m_mx1 : Cond.static Lib.Math.max.name ∈ m_TW := List.mem_filter.mpr ⟨by decide +kernel, by decide +kernel⟩
theorem m_mx2 : Cond.code Lib.Math.max.name Lib.Math.max.code 2 (some .int) ∈ m_TW := List.mem_filter.mpr ⟨by decide +kernel, by decide +kernel⟩
theorem m_mn1 : Cond.static Lib.Math.min.name ∈ m_TW := List.mem_filter.mpr ⟨by decide +kernel, by decide +kernel⟩
theorem m_mn2 : Cond.code Lib.Math.min.name Lib.Math.min.code 2 (some .int) ∈ m_TW := List.mem_filter.mpr ⟨by decide +kernel, by decide +kernel⟩
theorem m_ml1 : Cond.static Lib.MathLoose.max_long.x ∈ m_TW := List.mem_filter.mpr ⟨by decide +kernel, by decide +kernel⟩
theorem m_ml2 : Cond.code Lib.MathLoose.max_long.x Lib.MathLoose.max_long.code 4 (some .long) ∈ m_TW := List.mem_filter.mpr ⟨by decide +kernel, by decide +kernel⟩
theorem m_fv_df (ad : Nat → Nat) (k : Nat) (ty : FieldType) : m_fv ad (fun _ => 0) (fun _ => 0) k (defaultValue ty) = defaultValue ty := by cases ty <;> rfl
theorem m_ws_D {dA ad : Nat → Nat} {base : Nat} {h : mH} (hlen : h.1.length ≤ 1000000) (had : ∀ j, j < 1000000 → ad j = base + j) : va_D (m_A base) (m_ws dA ad h) := by
  have key : ∀ (i : Nat) (p : Nat × va_E), (m_ws dA ad h)[i]? = some p → p.1 = base + i ∧ i < h.1.length := by
    intro i p hp
    have hl : i < h.1.length := by have := (List.getElem?_eq_some_iff.mp hp).1; rwa [m_ws_len] at this
    have h1 := m_ws_get (dA := dA) (ad := ad) (List.getElem?_eq_getElem hl)
    rw [h1] at hp
    cases hp
    exact ⟨had i (by omega), hl⟩
  refine ⟨fun i j p q hp hq e => ?_, fun k q hk => ?_⟩
  · have h1 := key i p hp
    have h2 := key j q hq
    omega
  · have h1 := key k q hk
    show base ≤ q.1
    omega
theorem m_key1 (q : Nat) (h : 1000100 ≤ q ∧ q < 1000127) : ∃ j : Nat, q = 1000100 + j ∧ j < 27 := ⟨q - 1000100, by omega, by omega⟩
theorem m_key2 (q : Nat) (h : 1000200 ≤ q ∧ q < 1000227) : ∃ j : Nat, q = 1000200 + j ∧ j < 27 := ⟨q - 1000200, by omega, by omega⟩
theorem m_ok_newarr {own nm : String} {tab : List mM} {pc : Nat} {t : ArrayType} {aux : List Int} (h : m_okI own nm tab pc (.newarray t) aux = true) : ∃ pl, m_w pl (.arrayClass (newarray.typeOf t)) = true := by
  rcases aux with _ | ⟨a, _ | ⟨b, r⟩⟩
  · simp [m_okI] at h
  · exact ⟨a, h⟩
  · simp [m_okI] at h
theorem m_ok_anew {own nm : String} {tab : List mM} {pc : Nat} {i : Nat} {aux : List Int} (h : m_okI own nm tab pc (.anewarray i) aux = true) : ∃ pl, m_w pl (.classLink own i "IsHeIn$Moment") = true := by
  rcases aux with _ | ⟨a, _ | ⟨b, r⟩⟩
  · simp [m_okI] at h
  · exact ⟨a, h⟩
  · simp [m_okI] at h
section MS3
variable {p : Program} {l : Launch} {e : Env} {R : Room} {s : State} {m : MethodId} {args : Array Value} {below : List Frame} {meth : Method} {c : Code} {H : Heap} {locs : List Loc} {cells slots : Nat} {Q : State → Prop}
variable {cc : ByteArray} {pc pc' nL : Nat} {lsA : Array Slot} {ls ls' : List (Option Value)} {st st' : List Value} {h h' : mH} {ins : Instr} {aux : List Int} {own nm : String} {tab : List mM}
variable {ad : Nat → Nat} {base : Nat} {vF : Value} {dC : Nat → ClassId} {dI : Nat → Nat → Nat} {dA : Nat → Nat} {N : Nat} {xs : Nat → Int32}
set_option maxHeartbeats 8000000 in
theorem m_op3_ok (hop : m_op3 N xs ins aux pc ls st h = some (pc', ls', st', h')) (hd : decode cc pc = .ok (ins, m_len ins aux)) (hok : m_okI own nm tab pc ins aux = true) (hx : p.tables.exec = Jvm.exec) (hb : c.code = cc) (hlsz : lsA.size = c.maxLocals) (hown : s.vm.findClass own = some m.cls) (hts : ∀ w ∈ m_TW, w.before args s = true) (hF : m_Fx ad base vF dC dI dA N xs s s.heap) (hnm : nm = "<init>" → meth.name = "<init>")
    (hP : va_P (dC, dI) m_cl (m_ws dA ad h) H) (hsz : H.size = base + h.1.length) (hlen : h.1.length ≤ 1000000) (hS : va_S (m_A base) s.heap H locs) (hcells : cells + (h'.1.length - h.1.length) ≤ R.cells) (hslots : slots + (m_sl h'.1 - m_sl h.1) ≤ R.slots) (hroom : 1 ≤ R.frames ∧ 30 ≤ R.locals)
    (kk : ∀ (H' : Heap) (locs' : List Loc) (cells' slots' : Nat), ls' = ls → va_P (dC, dI) m_cl (m_ws dA ad h') H' → H'.size = base + h'.1.length → h'.1.length ≤ 1000000 → va_S (m_A base) s.heap H' locs' → cells' + h.1.length = cells + h'.1.length → slots' + m_sl h.1 = slots + m_sl h'.1 → W p l e R s m args below meth c H' locs' cells' slots' Q (F0 m pc' lsA (st'.map (m_v ad vF)))) :
    W p l e R s m args below meth c H locs cells slots Q (F0 m pc lsA (st.map (m_v ad vF))) := by
  obtain ⟨hK, hNw, hAO, ⟨hX, hXb, hXB⟩, hT5, hZ0, hZ1, hZ2, hStr, hR, hbase, hvF, had⟩ := id hF
  have hD := m_ws_D (dA := dA) hlen had
  have hbA : ¬ (m_A base) (ad 1000000) := fun q => by have : base ≤ ad 1000000 := q; omega
  have same : h' = h → ls' = ls → W p l e R s m args below meth c H locs cells slots Q (F0 m pc' lsA (st'.map (m_v ad vF))) := by
    intro e1 e2
    subst e1
    exact kk H locs cells slots e2 hP hsz hlen hS rfl rfl
  have clts : ∀ {ci : Nat} {C : String} {T : u_T} {n : Nat}, m_cl[ci]? = some (C, T, n) → ∀ w ∈ u_ws C T n, w ∈ m_TW := fun hq w hw => List.mem_filter.mpr ((m_clok hq).1 w hw)
  unfold m_op3 at hop
  split at hop
  · -- getfield
    next idx i r =>
    split at hop
    · next ci k pl a1 a2 =>
      split at hop
      · next v hv =>
        simp only [Option.some.injEq, Prod.mk.injEq] at hop
        obtain ⟨rfl, rfl, rfl, rfl⟩ := hop
        simp only [m_okI] at hok
        split at hok
        · next C T n hcl =>
          simp only [Bool.and_eq_true, decide_eq_true_eq] at hok
          unfold m_gf at hv
          split at hv
          · next c' fs hs =>
            split at hv
            · next hcc =>
              subst hcc
              have go : ∀ z : Value, fs[k.toNat]? = some z → m_fv ad (h.2.1 i) (h.2.2 i) k.toNat z = m_v ad vF v → W p l e R s m args below meth c H locs cells slots Q (F0 m pc lsA ((Value.ref i :: r).map (m_v ad vF))) := by
                intro z hz hzz
                refine va_get (D := (dC, dI)) (v := m_v ad vF v) hx hb hts (clts hcl) hown hK hP i (m_ws_get hs) hcl k.toNat hok.1 (hts _ (m_w_in hok.2)) (fun _ q => q) ?_ hd (same rfl rfl)
                rw [m_fs_get, hz]
                simp only [Option.map_some, Nat.zero_add, hzz]
              split at hv
              · next z hz => cases hv; exact go _ hz rfl
              · next z hz => cases hv; exact go _ hz rfl
              · next z hz => cases hv; exact go _ hz rfl
              · next hz => cases hv; exact go _ hz rfl
              · cases hv
            · cases hv
          · cases hv
        · cases hok
      · cases hop
    · next k pl =>
      split at hop
      · next hi =>
        obtain ⟨j, rfl, hj⟩ := m_key1 i hi
        obtain ⟨g1, g2, g3, g4⟩ := hStr j hj
        split at hop
        · next hk0 =>
          simp only [Option.some.injEq, Prod.mk.injEq] at hop
          obtain ⟨rfl, rfl, rfl, rfl⟩ := hop
          subst hk0
          simp only [m_okI, if_true] at hok
          refine vk_getf hx hb g3 hS hown (hts _ (m_w_in hok)) (fun _ q => q) hd ?_
          have h9 := same rfl rfl
          have e9 : ad (1000200 + j) = ad (1000100 + j + 100) := congrArg ad (show (1000200 + j : Nat) = 1000100 + j + 100 by omega)
          rw [e9]
          exact h9
        · next hk0 =>
          simp only [Option.some.injEq, Prod.mk.injEq] at hop
          obtain ⟨rfl, rfl, rfl, rfl⟩ := hop
          simp only [m_okI, if_neg hk0] at hok
          exact vk_getf hx hb g2 hS hown (hts _ (m_w_in hok)) (fun _ q => q) hd (same rfl rfl)
      · cases hop
    · cases hop
  · -- putfield
    next idx v i r =>
    split at hop
    · next ci k pl kd fin =>
      split at hop
      · next h2 hv =>
        simp only [Option.some.injEq, Prod.mk.injEq] at hop
        obtain ⟨rfl, rfl, rfl, rfl⟩ := hop
        simp only [m_okI] at hok
        split at hok
        · next C T n hcl =>
          simp only [Bool.and_eq_true, decide_eq_true_eq] at hok
          obtain ⟨⟨⟨hk, hw⟩, hfin⟩, hkd⟩ := hok
          have hfin' : (T k.toNat).2.2.2 = false ∨ ((T k.toNat).2.2.2 = true ∧ meth.name = "<init>" ∧ (T k.toNat).1 = own) := by
            split at hfin
            · simp only [Bool.and_eq_true, decide_eq_true_eq] at hfin
              exact Or.inr ⟨hfin.1.1, hnm hfin.1.2, hfin.2⟩
            · exact Or.inl (of_decide_eq_true hfin)
          obtain ⟨-, hty, hnms⟩ := m_clok hcl
          have hlayT : ∀ w ∈ u_ws C T n, w.before args s = true := fun w hw => hts w (clts hcl w hw)
          unfold m_pf at hv
          split at hv
          · next c' fs hs =>
            split at hv
            · next hcc =>
              subst hcc
              have hil : i < h.1.length := (List.getElem?_eq_some_iff.mp hs).1
              split at hv
              · -- an int
                next z x hz =>
                have hkl := (List.getElem?_eq_some_iff.mp hz).1
                have go : ∀ {h3 : mH}, h3 = (h.1, mu h.2.1 i k.toNat x, h.2.2) → h3 = h2 → narrow (m_ty ci.toNat k.toNat) (.int x) = .int x → fits (m_ty ci.toNat k.toNat) (.int x) = true → W p l e R s m args below meth c H locs cells slots Q (F0 m pc lsA ((Value.int x :: Value.ref i :: r).map (m_v ad vF))) := by
                  intro h3 e3 e4 hn hf
                  subst e4
                  refine m_row_put (D := (dC, dI)) hx hb hlayT (m_ty ci.toNat) hty hnms hown hK hP hD hS (m_ws_get hs) hcl hk (hts _ (m_w_in hw)) hfin' (v := .int x) hn hf (by rw [m_fs_len]; exact hkl) hd fun H1 locs1 z1 hP1 hS1 => ?_
                  have hset : (m_ws dA ad h).set i (ad i, .inr (ci.toNat, (m_fs ad (h.2.1 i) (h.2.2 i) 0 fs).set k.toNat (.int x))) = m_ws dA ad h3 := by
                    rw [e3]
                    refine m_ws_set (fun j hj => ?_) ?_ hil
                    · cases h.1[j]? with
                      | none => rfl
                      | some w => exact congrArg some (m_cell_eq w (m_mu_ne _ _ _ hj) rfl)
                    · show (h.1[i]?).map _ = _
                      rw [hs]
                      simp only [Option.map_some, m_cell, m_mu_self]
                      rw [m_fs_seti hz (di' := upd (h.2.1 i) k.toNat x) (fun j => rfl)]
                  rw [hset] at hP1
                  exact kk H1 locs1 cells slots rfl hP1 (by rw [z1, hsz, e3]) (by rw [e3]; exact hlen) hS1 (by rw [e3]) (by rw [e3])
                split at hv
                · next hkd0 =>
                  subst hkd0
                  cases hv
                  simp only [if_true] at hkd
                  have hty0 := of_decide_eq_true hkd
                  exact go rfl rfl (by rw [hty0]; rfl) (by rw [hty0]; rfl)
                · split at hv
                  · next hkd0 hkd3 =>
                    subst hkd3
                    split at hv
                    · next hx01 =>
                      cases hv
                      have hty0 : m_ty ci.toNat k.toNat = .boolean := by
                        have h9 := hkd
                        simp only [show ¬ (3 : Int) = 0 by decide, show ¬ (3 : Int) = 1 by decide, if_false, if_true] at h9
                        exact of_decide_eq_true h9
                      refine go rfl rfl ?_ ?_
                      · rw [hty0]
                        rcases hx01 with rfl | rfl <;> decide
                      · rw [hty0]
                        rcases hx01 with rfl | rfl <;> decide
                    · cases hv
                  · cases hv
              · -- a long
                next z x hz =>
                have hkl := (List.getElem?_eq_some_iff.mp hz).1
                split at hv
                · next hkd1 =>
                  subst hkd1
                  cases hv
                  have hty0 : m_ty ci.toNat k.toNat = .long := by
                    have h9 := hkd
                    simp only [show ¬ (1 : Int) = 0 by decide, if_false, if_true] at h9
                    exact of_decide_eq_true h9
                  refine m_row_put (D := (dC, dI)) hx hb hlayT (m_ty ci.toNat) hty hnms hown hK hP hD hS (m_ws_get hs) hcl hk (hts _ (m_w_in hw)) hfin' (v := .long x) (by rw [hty0]; rfl) (by rw [hty0]; rfl) (by rw [m_fs_len]; exact hkl) hd fun H1 locs1 z1 hP1 hS1 => ?_
                  have hset : (m_ws dA ad h).set i (ad i, .inr (ci.toNat, (m_fs ad (h.2.1 i) (h.2.2 i) 0 fs).set k.toNat (.long x))) = m_ws dA ad (h.1, h.2.1, muL h.2.2 i k.toNat x) := by
                    refine m_ws_set (fun j hj => ?_) ?_ hil
                    · cases h.1[j]? with
                      | none => rfl
                      | some w => exact congrArg some (m_cell_eq w rfl (m_muL_ne _ _ _ hj))
                    · show (h.1[i]?).map _ = _
                      rw [hs]
                      simp only [Option.map_some, m_cell, m_muL_self]
                      rw [m_fs_setl hz (li' := vp_updL (h.2.2 i) k.toNat x) (fun j => rfl)]
                  rw [hset] at hP1
                  exact kk H1 locs1 cells slots rfl hP1 (by rw [z1, hsz]) hlen hS1 rfl rfl
                · cases hv
              · -- a reference
                next j hz =>
                have hkl := (List.getElem?_eq_some_iff.mp hz).1
                split at hv
                · next hkd2 =>
                  subst hkd2
                  cases hv
                  have hty0 : m_isRefTy (m_ty ci.toNat k.toNat) = true := by
                    have h9 := hkd
                    simp only [show ¬ (2 : Int) = 0 by decide, show ¬ (2 : Int) = 1 by decide, show ¬ (2 : Int) = 3 by decide, if_false] at h9
                    exact h9
                  have hnf : narrow (m_ty ci.toNat k.toNat) (.ref (ad j)) = .ref (ad j) ∧ fits (m_ty ci.toNat k.toNat) (.ref (ad j)) = true := by
                    cases hz2 : m_ty ci.toNat k.toNat <;> rw [hz2] at hty0 <;> first | exact ⟨rfl, rfl⟩ | cases hty0
                  refine m_row_put (D := (dC, dI)) hx hb hlayT (m_ty ci.toNat) hty hnms hown hK hP hD hS (m_ws_get hs) hcl hk (hts _ (m_w_in hw)) hfin' (v := .ref (ad j)) hnf.1 hnf.2 (by rw [m_fs_len]; exact hkl) hd fun H1 locs1 z1 hP1 hS1 => ?_
                  have hset : (m_ws dA ad h).set i (ad i, .inr (ci.toNat, (m_fs ad (h.2.1 i) (h.2.2 i) 0 fs).set k.toNat (.ref (ad j)))) = m_ws dA ad (h.1.set i (.inr (ci.toNat, fs.set k.toNat (.ref j))), h.2.1, h.2.2) := by
                    refine m_ws_set (fun q hq => ?_) ?_ hil
                    · show (h.1[q]?).map _ = ((h.1.set i _)[q]?).map _
                      rw [List.getElem?_set_ne (Ne.symm hq)]
                    · show ((h.1.set i _)[i]?).map _ = _
                      rw [List.getElem?_set_self hil]
                      simp only [Option.map_some, m_cell]
                      rw [m_fs_setr hz]
                  rw [hset] at hP1
                  refine kk H1 locs1 cells slots rfl hP1 (by rw [z1, hsz, List.length_set]) (by rw [List.length_set]; exact hlen) hS1 (by rw [List.length_set]) ?_
                  rw [m_sl_set hs (by simp [m_sl1])]
                · cases hv
              · cases hv
            · cases hv
          · cases hv
        · cases hok
      · cases hop
    · cases hop
  · -- getstatic
    next idx st =>
    split at hop
    · next pl =>
      simp only [Option.some.injEq, Prod.mk.injEq] at hop
      obtain ⟨rfl, rfl, rfl, rfl⟩ := hop
      exact va_getsN hx hb hZ0 hS hown (va_Nw.use rfl (hNw _ (m_nw_in hok))) (fun _ q => q) hd (same rfl rfl)
    · next pl =>
      simp only [Option.some.injEq, Prod.mk.injEq] at hop
      obtain ⟨rfl, rfl, rfl, rfl⟩ := hop
      exact va_gets hx hb hZ1 hS hown (hts _ (m_w_in hok)) (fun _ q => q) hd (same rfl rfl)
    · next pl =>
      simp only [Option.some.injEq, Prod.mk.injEq] at hop
      obtain ⟨rfl, rfl, rfl, rfl⟩ := hop
      exact va_gets hx hb hZ2 hS hown (hts _ (m_w_in hok)) (fun _ q => q) hd (same rfl rfl)
    · cases hop
  · -- arraylength
    next j r =>
    split at hop
    · next n hn =>
      simp only [Option.some.injEq, Prod.mk.injEq] at hop
      obtain ⟨rfl, rfl, rfl, rfl⟩ := hop
      unfold m_al at hn
      split at hn
      · next k n' q hs =>
        split at hn
        · next hk3 =>
          cases hn
          have ht : ∃ ty, (m_tys dA)[k]? = some (dA k, ty) := by
            match k, hk3 with
            | 0, _ => exact ⟨_, rfl⟩
            | 1, _ => exact ⟨_, rfl⟩
            | 2, _ => exact ⟨_, rfl⟩
          obtain ⟨ty, ht⟩ := ht
          exact va_alen hx hb hK hP j k (m_ws_get hs) ht rfl hd (same rfl rfl)
        · cases hn
      · cases hn
      · split at hn
        · next hj =>
          have hn := Option.some.inj hn
          subst hn
          subst hj
          exact va_slen hx hb hX hXb hbA hS hd (same rfl rfl)
        · split at hn
          · next hj =>
            have hn := Option.some.inj hn
            subst hn
            subst hj
            exact va_tlen hx hb hT5 hS rfl hd (same rfl rfl)
          · split at hn
            · next hj =>
              have hn := Option.some.inj hn
              subst hn
              obtain ⟨k, rfl, hk27⟩ := m_key2 j hj
              obtain ⟨g1, g2, g3, g4⟩ := hStr k hk27
              have e9 : (1000200 + k : Nat) - 1000200 = k := by omega
              have h9 := same rfl rfl
              rw [e9] at h9
              exact va_tlen hx hb g4 hS rfl hd h9
            · cases hn
    · cases hop
  · -- iaload
    next i j r =>
    split at hop
    · next x hxx =>
      simp only [Option.some.injEq, Prod.mk.injEq] at hop
      obtain ⟨rfl, rfl, rfl, rfl⟩ := hop
      unfold m_ia at hxx
      split at hxx
      · next n q hs =>
        split at hxx
        · cases hxx
        · next hin =>
          cases hxx
          exact va_iald hx hb hK hP j 0 (m_ws_get hs) rfl hin hd (same rfl rfl)
      · cases hxx
      · split at hxx
        · next hj =>
          subst hj
          split at hxx
          · cases hxx
          · next hin =>
            cases hxx
            exact va_sld hx hb hX hXb hbA hS hin hd (same rfl rfl)
        · split at hxx
          · next hj =>
            subst hj
            split at hxx
            · cases hxx
            · next hin =>
              cases hxx
              exact va_ti hx hb hT5 hS hin rfl hd (same rfl rfl)
          · cases hxx
    · cases hop
  · -- laload
    next i j r =>
    split at hop
    · next n q hs =>
      split at hop
      · cases hop
      · next hin =>
        simp only [Option.some.injEq, Prod.mk.injEq] at hop
        obtain ⟨rfl, rfl, rfl, rfl⟩ := hop
        exact va_lald hx hb hK hP j 1 (m_ws_get hs) rfl hin hd (same rfl rfl)
    · cases hop
  · -- aaload
    next i j r =>
    split at hop
    · next n q hs =>
      split at hop
      · cases hop
      · next hin =>
        simp only [Option.some.injEq, Prod.mk.injEq] at hop
        obtain ⟨rfl, rfl, rfl, rfl⟩ := hop
        refine va_aldq hx hb hK hP j 2 (m_ws_get hs) rfl hin hd ?_
        have h9 := same rfl rfl
        simp only [List.map_cons] at h9
        cases hz : q.getD i.toNatClampNeg none with
        | none => rw [hz] at h9; simpa [va_rf, m_v] using h9
        | some a => rw [hz] at h9; simpa [va_rf, m_v] using h9
    · cases hop
  · -- baload
    next i j r =>
    split at hop
    · next hj =>
      obtain ⟨k, rfl, hk27⟩ := m_key2 j hj
      obtain ⟨g1, g2, g3, g4⟩ := hStr k hk27
      have e9 : (1000200 + k : Nat) - 1000200 = k := by omega
      rw [e9] at hop
      split at hop
      · cases hop
      · next hin =>
        simp only [Option.some.injEq, Prod.mk.injEq] at hop
        obtain ⟨rfl, rfl, rfl, rfl⟩ := hop
        exact va_tb hx hb g4 hS hin rfl hd (same rfl rfl)
    · cases hop
  · -- iastore
    next x i j r =>
    split at hop
    · next n q hs =>
      split at hop
      · cases hop
      · next hin =>
        simp only [Option.some.injEq, Prod.mk.injEq] at hop
        obtain ⟨rfl, rfl, rfl, rfl⟩ := hop
        have hil : j < h.1.length := (List.getElem?_eq_some_iff.mp hs).1
        refine m_row_iast (t0 := 0) hx hb hK hP hD hS (m_ws_get hs) rfl hin hd fun H1 locs1 z1 hP1 hS1 => ?_
        have hset : (m_ws dA ad h).set j (ad j, .inl (dA 0, n, .inl (upd (h.2.1 j) i.toNatClampNeg x))) = m_ws dA ad (h.1, mu h.2.1 j i.toNatClampNeg x, h.2.2) := by
          refine m_ws_set (fun q hq => ?_) ?_ hil
          · cases h.1[q]? with
            | none => rfl
            | some w => exact congrArg some (m_cell_eq w (m_mu_ne _ _ _ hq) rfl)
          · show (h.1[j]?).map _ = _
            rw [hs]
            simp only [Option.map_some, m_cell, m_mu_self]
        rw [hset] at hP1
        exact kk H1 locs1 cells slots rfl hP1 (by rw [z1, hsz]) hlen hS1 rfl rfl
    · cases hop
  · -- lastore
    next x i j r =>
    split at hop
    · next n q hs =>
      split at hop
      · cases hop
      · next hin =>
        simp only [Option.some.injEq, Prod.mk.injEq] at hop
        obtain ⟨rfl, rfl, rfl, rfl⟩ := hop
        have hil : j < h.1.length := (List.getElem?_eq_some_iff.mp hs).1
        refine m_row_last (t0 := 1) hx hb hK hP hD hS (m_ws_get hs) rfl hin hd fun H1 locs1 z1 hP1 hS1 => ?_
        have hset : (m_ws dA ad h).set j (ad j, .inl (dA 1, n, .inr (.inl (vp_updL (h.2.2 j) i.toNatClampNeg x)))) = m_ws dA ad (h.1, h.2.1, muL h.2.2 j i.toNatClampNeg x) := by
          refine m_ws_set (fun q hq => ?_) ?_ hil
          · cases h.1[q]? with
            | none => rfl
            | some w => exact congrArg some (m_cell_eq w rfl (m_muL_ne _ _ _ hq))
          · show (h.1[j]?).map _ = _
            rw [hs]
            simp only [Option.map_some, m_cell, m_muL_self]
        rw [hset] at hP1
        exact kk H1 locs1 cells slots rfl hP1 (by rw [z1, hsz]) hlen hS1 rfl rfl
    · cases hop
  · -- aastore
    next a i j r =>
    split at hop
    · next n q vs hs hs2 =>
      split at hop
      · cases hop
      · next hin =>
        split at hop
        · next hql =>
          simp only [Option.some.injEq, Prod.mk.injEq] at hop
          obtain ⟨rfl, rfl, rfl, rfl⟩ := hop
          have hil : j < h.1.length := (List.getElem?_eq_some_iff.mp hs).1
          refine m_row_aast (t0 := 2) (ci := 4) (r := (RX4, TX4, 4)) hx hb hK hP hD hS (m_ws_get hs) rfl (m_ws_get hs2) rfl hin hd fun H1 locs1 z1 hP1 hS1 => ?_
          have hset : (m_ws dA ad h).set j (ad j, .inl (dA 2, n, .inr (.inr (.inr (.inr (va_up (fun j => (q.getD j none).map ad) i.toNatClampNeg (some (ad a)))))))) = m_ws dA ad (h.1.set j (.inl (2, n, q.set i.toNatClampNeg (some a))), h.2.1, h.2.2) := by
            refine m_ws_set (fun z hz => ?_) ?_ hil
            · show (h.1[z]?).map _ = ((h.1.set j _)[z]?).map _
              rw [List.getElem?_set_ne (Ne.symm hz)]
            · show ((h.1.set j _)[j]?).map _ = _
              rw [List.getElem?_set_self hil]
              simp only [Option.map_some, m_cell, Option.some.injEq, Sum.inl.injEq, Prod.mk.injEq, true_and, Sum.inr.injEq]
              funext z
              by_cases hz : z = i.toNatClampNeg
              · subst hz
                simp [va_up, List.getD_eq_getElem?_getD, List.getElem?_set_self hql]
              · simp [va_up, hz, List.getD_eq_getElem?_getD, List.getElem?_set_ne (Ne.symm hz)]
          rw [hset] at hP1
          refine kk H1 locs1 cells slots rfl hP1 (by rw [z1, hsz, List.length_set]) (by rw [List.length_set]; exact hlen) hS1 (by rw [List.length_set]) ?_
          rw [m_sl_set hs (by simp [m_sl1])]
        · cases hop
    · cases hop
  · -- new
    next idx st =>
    split at hop
    · next ci p1 p2 p3 =>
      split at hop
      · next hlt =>
        simp only [Option.some.injEq, Prod.mk.injEq] at hop
        obtain ⟨rfl, rfl, rfl, rfl⟩ := hop
        simp only [m_okI] at hok
        split at hok
        · next C T n hcl =>
          simp only [Bool.and_eq_true] at hok
          obtain ⟨⟨w1, w2⟩, w3⟩ := hok
          obtain ⟨-, hty, hnms⟩ := m_clok hcl
          have hc13 : ci.toNat < 13 := (List.getElem?_eq_some_iff.mp hcl).1
          have hdf := m_dfok ci.toNat hc13
          rw [hcl] at hdf
          obtain ⟨hdl, hdv⟩ := hdf
          have hsl1 : m_sl (h.1 ++ [.inr (ci.toNat, m_df ci.toNat)]) = m_sl h.1 + n := by rw [m_sl_app]; simp [m_sl, m_sl1, hdl]
          simp only [List.length_append, List.length_singleton, hsl1] at hcells hslots
          refine m_row_new (D := (dC, dI)) hx hb (fun w hw => hts w (clts hcl w hw)) (m_ty ci.toNat) hty hown (hts _ (m_w_in w1)) (hts _ (m_w_in w2)) (hts _ (m_w_in w3)) hK hP hS hcl (fs := m_fs ad (fun _ => 0) (fun _ => 0) 0 (m_df ci.toNat)) ?_ (by omega) (by omega) hd hsz fun H1 z1 hP1 hS1 => ?_
          · intro j hj
            simp only [vp_V, List.getD_eq_getElem?_getD, m_fs_get, hdv j hj, Option.map_some, Option.getD_some, m_fv_df]
          · have hpush := m_ws_push (dA := dA) (ad := ad) (h := h) (s := .inr (ci.toNat, m_df ci.toNat)) (D := mz h.2.1 h.1.length) (L := mzL h.2.2 h.1.length) (fun i hi => by simp [mz, show ¬ i = h.1.length by omega]) (fun i hi => by simp [mzL, show ¬ i = h.1.length by omega])
            have hz0 : mz h.2.1 h.1.length h.1.length = fun _ => 0 := by simp [mz]
            have hz1 : mzL h.2.2 h.1.length h.1.length = fun _ => 0 := by simp [mzL]
            simp only [m_cell, hz0, hz1, had _ hlt] at hpush
            rw [hpush] at hP1
            have h9 := kk H1 locs (cells + 1) (slots + n) rfl hP1 (by simp only [List.length_append, List.length_singleton]; omega) (by simp only [List.length_append, List.length_singleton]; omega) hS1 (by simp only [List.length_append, List.length_singleton]; omega) (by rw [hsl1]; omega)
            simpa [m_v, had _ hlt] using h9
        · cases hok
      · cases hop
    · cases hop
  · -- newarray
    next t n r =>
    split at hop
    · cases hop
    · next hn =>
      split at hop
      · next hlt =>
        split at hop
        · -- ints
          simp only [Option.some.injEq, Prod.mk.injEq] at hop
          obtain ⟨rfl, rfl, rfl, rfl⟩ := hop
          obtain ⟨pl, hw⟩ := m_ok_newarr hok
          have hsl1 : m_sl (h.1 ++ [.inl (0, n.toNatClampNeg, [])]) = m_sl h.1 + n.toNatClampNeg := by rw [m_sl_app]; simp [m_sl, m_sl1]
          simp only [List.length_append, List.length_singleton, hsl1] at hcells hslots
          have hn0 : ¬ n < 0 := fun q => hn (Or.inl q)
          have hn1 : n.toNatClampNeg < 1000000 := Nat.not_le.mp fun q => hn (Or.inr q)
          refine m_row_newa (t0 := 0) (cA := dA 0) (ty := .int) (a0 := (n.toNatClampNeg, .inl (fun _ => 0))) (N' := n.toNatClampNeg) hx hb (hts _ (m_w_in hw)) rfl hK rfl (fun q => q) hP hS (fun _ => rfl) hn0 rfl (by show n.toNatClampNeg * 4 ≤ _; omega) (by omega) (by omega) hd hsz fun H1 z1 hP1 hS1 => ?_
          have hpush := m_ws_push (dA := dA) (ad := ad) (h := h) (s := .inl (0, n.toNatClampNeg, [])) (D := mz h.2.1 h.1.length) (L := mzL h.2.2 h.1.length) (fun i hi => by simp [mz, show ¬ i = h.1.length by omega]) (fun i hi => by simp [mzL, show ¬ i = h.1.length by omega])
          have hz0 : mz h.2.1 h.1.length h.1.length = fun _ => 0 := by simp [mz]
          simp only [m_cell, hz0, had _ hlt] at hpush
          rw [hpush] at hP1
          have h9 := kk H1 locs (cells + 1) (slots + n.toNatClampNeg) rfl hP1 (by simp only [List.length_append, List.length_singleton]; omega) (by simp only [List.length_append, List.length_singleton]; omega) hS1 (by simp only [List.length_append, List.length_singleton]; omega) (by rw [hsl1]; omega)
          simpa [m_v, had _ hlt] using h9
        · -- longs
          simp only [Option.some.injEq, Prod.mk.injEq] at hop
          obtain ⟨rfl, rfl, rfl, rfl⟩ := hop
          obtain ⟨pl, hw⟩ := m_ok_newarr hok
          have hsl1 : m_sl (h.1 ++ [.inl (1, n.toNatClampNeg, [])]) = m_sl h.1 + n.toNatClampNeg := by rw [m_sl_app]; simp [m_sl, m_sl1]
          simp only [List.length_append, List.length_singleton, hsl1] at hcells hslots
          have hn0 : ¬ n < 0 := fun q => hn (Or.inl q)
          have hn1 : n.toNatClampNeg < 1000000 := Nat.not_le.mp fun q => hn (Or.inr q)
          refine m_row_newa (t0 := 1) (cA := dA 1) (ty := .long) (a0 := (n.toNatClampNeg, .inr (.inl (fun _ => 0)))) (N' := n.toNatClampNeg) hx hb (hts _ (m_w_in hw)) rfl hK rfl (fun q => q) hP hS (fun _ => rfl) hn0 rfl (by show n.toNatClampNeg * 8 ≤ _; omega) (by omega) (by omega) hd hsz fun H1 z1 hP1 hS1 => ?_
          have hpush := m_ws_push (dA := dA) (ad := ad) (h := h) (s := .inl (1, n.toNatClampNeg, [])) (D := mz h.2.1 h.1.length) (L := mzL h.2.2 h.1.length) (fun i hi => by simp [mz, show ¬ i = h.1.length by omega]) (fun i hi => by simp [mzL, show ¬ i = h.1.length by omega])
          have hz0 : mzL h.2.2 h.1.length h.1.length = fun _ => 0 := by simp [mzL]
          simp only [m_cell, hz0, had _ hlt] at hpush
          rw [hpush] at hP1
          have h9 := kk H1 locs (cells + 1) (slots + n.toNatClampNeg) rfl hP1 (by simp only [List.length_append, List.length_singleton]; omega) (by simp only [List.length_append, List.length_singleton]; omega) hS1 (by simp only [List.length_append, List.length_singleton]; omega) (by rw [hsl1]; omega)
          simpa [m_v, had _ hlt] using h9
        · cases hop
      · cases hop
  · -- anewarray
    next idx n r =>
    split at hop
    · cases hop
    · next hn =>
      split at hop
      · next hlt =>
        simp only [Option.some.injEq, Prod.mk.injEq] at hop
        obtain ⟨rfl, rfl, rfl, rfl⟩ := hop
        obtain ⟨pl, hw⟩ := m_ok_anew hok
        have hsl1 : m_sl (h.1 ++ [.inl (2, n.toNatClampNeg, List.replicate n.toNatClampNeg none)]) = m_sl h.1 + n.toNatClampNeg := by rw [m_sl_app]; simp [m_sl, m_sl1]
        simp only [List.length_append, List.length_singleton, hsl1] at hcells hslots
        have hn0 : ¬ n < 0 := fun q => hn (Or.inl q)
        have hn1 : n.toNatClampNeg < 1000000 := Nat.not_le.mp fun q => hn (Or.inr q)
        refine m_row_anew (t0 := 2) (cA := dA 2) hx hb hown (hts _ (m_w_in hw)) hAO hK rfl hP hS hn0 rfl (by omega) (by omega) (by omega) hd hsz fun H1 z1 hP1 hS1 => ?_
        have hpush := m_ws_push (dA := dA) (ad := ad) (h := h) (s := .inl (2, n.toNatClampNeg, List.replicate n.toNatClampNeg none)) (D := mz h.2.1 h.1.length) (L := mzL h.2.2 h.1.length) (fun i hi => by simp [mz, show ¬ i = h.1.length by omega]) (fun i hi => by simp [mzL, show ¬ i = h.1.length by omega])
        have hz0 : (fun j => ((List.replicate n.toNatClampNeg (none : Option Nat)).getD j none).map ad) = fun _ => none := by
          funext j
          simp only [List.getD_eq_getElem?_getD, List.getElem?_replicate]
          split <;> rfl
        simp only [m_cell, hz0, had _ hlt] at hpush
        rw [hpush] at hP1
        have h9 := kk H1 locs (cells + 1) (slots + n.toNatClampNeg) rfl hP1 (by simp only [List.length_append, List.length_singleton]; omega) (by simp only [List.length_append, List.length_singleton]; omega) hS1 (by simp only [List.length_append, List.length_singleton]; omega) (by rw [hsl1]; omega)
        simpa [m_v, had _ hlt] using h9
      · cases hop
  · -- Object.<init>
    next idx j r =>
    split at hop
    · next pl a1 =>
      split at hop
      · next hcat =>
        simp only [Option.some.injEq, Prod.mk.injEq] at hop
        obtain ⟨rfl, rfl, rfl, rfl⟩ := hop
        have hcat' : ((r.map (m_v ad vF)).map fun v => v.category).sum ≤ 8 := by
          rw [List.map_map]
          rw [show ((fun v : Value => v.category) ∘ m_v ad vF) = (fun v => v.category) from funext fun w => m_v_cat hvF w]
          exact hcat
        have hok' : m_w pl (.methodLink own idx Lib.objectInit) = true := by simpa [m_okI] using hok
        refine W.objInit hx hb hown (hts _ (m_w_in hok')) (hts _ m_obj1) (hts _ m_obj2) rfl hlsz rfl hd hroom.1 ?_ (same rfl rfl)
        show 2 * 0 + _ + 12 ≤ _
        omega
      · cases hop
    · cases hop
  · -- Math
    next st idx =>
    have catm : ∀ r : List Value, ((r.map (m_v ad vF)).map fun v => v.category).sum = (r.map fun v => v.category).sum := by
      intro r
      rw [List.map_map, show ((fun v : Value => v.category) ∘ m_v ad vF) = (fun v => v.category) from funext fun w => m_v_cat hvF w]
    unfold m_math at hop
    split at hop
    · next a1 pl x r =>
      split at hop
      · next hcat =>
        simp only [Option.some.injEq, Prod.mk.injEq] at hop
        obtain ⟨rfl, rfl, rfl, rfl⟩ := hop
        have hw : m_w pl (.methodLink own idx Lib.Math.abs.name) = true := hok
        exact va_mabs hx hb hlsz.symm hown (hts _ (m_w_in hw)) (hts _ m_ma1) (hts _ m_ma0) (hts _ m_ma2) hroom.1 (by rw [catm]; omega) (by omega) (by omega) hd (same rfl rfl)
      · cases hop
    · next a1 pl y x r =>
      split at hop
      · next hcat =>
        simp only [Option.some.injEq, Prod.mk.injEq] at hop
        obtain ⟨rfl, rfl, rfl, rfl⟩ := hop
        have hw : m_w pl (.methodLink own idx Lib.Math.max.name) = true := hok
        exact va_mmax hx hb hlsz.symm hown (hts _ (m_w_in hw)) (hts _ m_mx1) (hts _ m_ma0) (hts _ m_mx2) hroom.1 (by rw [catm]; omega) (by omega) (by omega) hd (same rfl rfl)
      · cases hop
    · next a1 pl y x r =>
      split at hop
      · next hcat =>
        simp only [Option.some.injEq, Prod.mk.injEq] at hop
        obtain ⟨rfl, rfl, rfl, rfl⟩ := hop
        have hw : m_w pl (.methodLink own idx ⟨"java/lang/Math", "max", "(JJ)J"⟩) = true := hok
        exact va_mmax_long hx hb hlsz.symm hown (hts _ (m_w_in hw)) (hts _ m_ml1) (hts _ m_ma0) (hts _ m_ml2) hroom.1 (by rw [catm]; omega) (by omega) (by omega) hd (same rfl rfl)
      · cases hop
    · next a1 pl y x r =>
      split at hop
      · next hcat =>
        simp only [Option.some.injEq, Prod.mk.injEq] at hop
        obtain ⟨rfl, rfl, rfl, rfl⟩ := hop
        have hw : m_w pl (.methodLink own idx Lib.Math.min.name) = true := hok
        exact va_mmin hx hb hlsz.symm hown (hts _ (m_w_in hw)) (hts _ m_mn1) (hts _ m_ma0) (hts _ m_mn2) hroom.1 (by rw [catm]; omega) (by omega) (by omega) hd (same rfl rfl)
      · cases hop
    · cases hop
  · cases hop
end MS3
