def m_A (base : Nat) : Nat → Prop := fun q => base ≤ q
def m_tys (dA : Nat → Nat) : List (ClassId × FieldType) := [(dA 0, .int), (dA 1, .long), (dA 2, .object "IsHeIn$Moment")]
/-- what stands fixed beside the world: the tables, the script, the static row, the Strings -/
def m_Fx (ad : Nat → Nat) (base : Nat) (vF : Value) (dC : Nat → ClassId) (dI : Nat → Nat → Nat) (dA : Nat → Nat) (N : Nat) (xs : Nat → Int32) (U : State) (H : Heap) : Prop :=
  va_K (dC, dI) m_cl (m_tys dA) U ∧ (∀ w ∈ m_nest, va_Nw w U) ∧ va_AO "IsHeIn$Moment" U ∧ (va_X (ad 1000000) N xs U H ∧ ad 1000000 < H.size ∧ ad 1000000 < base) ∧
  va_T .int (ad 1000001) 5 (fun j => .int (m_unt.getD j 0)) (m_A base) U H ∧ va_Z "IsHeIn" "UNTOLD" "[I" (.ref (ad 1000001)) (m_A base) U H ∧ va_Z "java/lang/String" "COMPACT_STRINGS" "Z" (.int 1) (m_A base) U H ∧ va_Z "jdk/internal/util/Preconditions" "SIOOBE_FORMATTER" "Ljava/util/function/BiFunction;" vF (m_A base) U H ∧
  (∀ k, k < 27 → va_O "java/lang/String" (ad (1000100 + k)) (m_A base) U H ∧ va_OF "java/lang/String" "coder" "B" (.int 0) (ad (1000100 + k)) (m_A base) U H ∧ va_OF "java/lang/String" "value" "[B" (.ref (ad (1000200 + k))) (ad (1000100 + k)) (m_A base) U H ∧ va_T .byte (ad (1000200 + k)) (m_sb.getD k []).length (fun j => .int ((m_sb.getD k []).getD j 0)) (m_A base) U H) ∧
  (∀ k, k < 27 → ∀ q, m_str[k]? = some q → vk_R q.1 q.2.1 q.2.2 (ad (1000100 + k)) U) ∧ base ≤ H.size ∧ vF.category = 1 ∧ ∀ j, j < 1000000 → ad j = base + j
theorem m_v_cat {ad : Nat → Nat} {vF : Value} (h : vF.category = 1) (w : Value) : (m_v ad vF w).category = w.category := by
  cases w <;> simp [m_v, Value.category] <;> (try exact h)
theorem m_v_cat2 {ad : Nat → Nat} {vF : Value} (h : vF.category = 1) (w : Value) (hc : (m_v ad vF w).category = 2) : ∃ x, w = .long x ∨ ∃ y, w = .double y := by
  rw [m_v_cat h] at hc
  cases w with
  | long x => exact ⟨x, Or.inl rfl⟩
  | double y => exact ⟨0, Or.inr ⟨y, rfl⟩⟩
  | _ => simp [Value.category] at hc
section MS
variable {p : Program} {l : Launch} {e : Env} {R : Room} {s : State} {m : MethodId} {args : Array Value} {below : List Frame} {meth : Method} {c : Code} {H : Heap} {locs : List Loc} {cells slots : Nat} {Q : State → Prop}
variable {cc : ByteArray} {pc pc' nL : Nat} {lsA : Array Slot} {ls ls' : List (Option Value)} {st st' : List Value} {h h' : mH} {ins : Instr} {aux : List Int} {own nm : String} {tab : List mM}
variable {ad : Nat → Nat} {base : Nat} {vF : Value} {dC : Nat → ClassId} {dI : Nat → Nat → Nat} {dA : Nat → Nat} {N : Nat} {xs : Nat → Int32}
theorem m_li_ok {i : Nat} {x : Int32} (hL : m_LH ad vF lsA nL ls) (h : m_li ls i = some x) : lsA[i]? = some (.val (.int x)) := by
  unfold m_li at h
  split at h
  · next y hy => cases h; exact hL.2.2 i _ hy
  · cases h
theorem m_ll_ok {i : Nat} {x : Int64} (hL : m_LH ad vF lsA nL ls) (h : m_ll ls i = some x) : lsA[i]? = some (.val (.long x)) := by
  unfold m_ll at h
  split at h
  · next y hy => cases h; exact hL.2.2 i _ hy
  · cases h
theorem m_la_ok {i : Nat} {x : Value} (hL : m_LH ad vF lsA nL ls) (h : m_la ls i = some x) : (∃ j, x = .ref j ∧ lsA[i]? = some (.val (.ref (ad j)))) ∨ (x = .null ∧ lsA[i]? = some (.val .null)) := by
  unfold m_la at h
  split at h
  · next y hy => cases h; exact Or.inl ⟨y, rfl, hL.2.2 i _ hy⟩
  · next hy => cases h; exact Or.inr ⟨rfl, hL.2.2 i _ hy⟩
  · cases h
set_option maxHeartbeats 4000000 in
theorem m_op1_ok (hop : m_op1 ins aux pc ls st h = some (pc', ls', st', h')) (hd : decode cc pc = .ok (ins, m_len ins aux)) (hok : m_okI own nm tab pc ins aux = true) (hx : p.tables.exec = Jvm.exec) (hb : c.code = cc) (hown : s.vm.findClass own = some m.cls) (hts : ∀ w ∈ m_TW, w.before args s = true) (hF : m_Fx ad base vF dC dI dA N xs s s.heap) (hnL : ls.length = nL)
    (hL : m_LH ad vF lsA nL ls) (kk : h' = h → ls'.length = nL → ∀ lsA', m_LH ad vF lsA' nL ls' → W p l e R s m args below meth c H locs cells slots Q (F0 m pc' lsA' (st'.map (m_v ad vF)))) : W p l e R s m args below meth c H locs cells slots Q (F0 m pc lsA (st.map (m_v ad vF))) := by
  have hvF : vF.category = 1 := hF.2.2.2.2.2.2.2.2.2.2.2.1
  have hc2 := m_v_cat2 (ad := ad) hvF
  have s1len : ∀ {i : Nat} {v : Value} {l' : List (Option Value)}, m_s1 ls i v = some l' → l'.length = nL := by
    intro i v l' q
    unfold m_s1 at q
    split at q
    · split at q
      · cases q; simpa using hnL
      · split at q
        · cases q; simpa using hnL
        · cases q
        · cases q; simpa using hnL
    · cases q
  have s2len : ∀ {i : Nat} {v : Value} {l' : List (Option Value)}, m_s2 ls i v = some l' → l'.length = nL := by
    intro i v l' q
    unfold m_s2 at q
    split at q
    · split at q
      · cases q; simpa using hnL
      · split at q
        · cases q; simpa using hnL
        · cases q
        · cases q; simpa using hnL
    · cases q
  cases ins <;> try (simp [m_op1] at hop; done)
  case iconst n =>
    simp only [m_op1, Option.some.injEq, Prod.mk.injEq] at hop
    obtain ⟨rfl, rfl, rfl, rfl⟩ := hop
    exact lv_iconst hx hb hd rfl (kk rfl hnL lsA hL)
  case bipush n =>
    simp only [m_op1, Option.some.injEq, Prod.mk.injEq] at hop
    obtain ⟨rfl, rfl, rfl, rfl⟩ := hop
    exact lv_bipush hx hb hd rfl (kk rfl hnL lsA hL)
  case sipush n =>
    simp only [m_op1, Option.some.injEq, Prod.mk.injEq] at hop
    obtain ⟨rfl, rfl, rfl, rfl⟩ := hop
    exact lv_sipush hx hb hd rfl (kk rfl hnL lsA hL)
  case lconst n =>
    simp only [m_op1, Option.some.injEq, Prod.mk.injEq] at hop
    obtain ⟨rfl, rfl, rfl, rfl⟩ := hop
    exact lv_lconst hx hb hd rfl (kk rfl hnL lsA hL)
  case aconst_null =>
    simp only [m_op1, Option.some.injEq, Prod.mk.injEq] at hop
    obtain ⟨rfl, rfl, rfl, rfl⟩ := hop
    exact lv_null hx hb hd (kk rfl hnL lsA hL)
  case ldc i =>
    unfold m_op1 at hop
    simp only at hop
    split at hop
    · next v pl =>
      simp only [Option.some.injEq, Prod.mk.injEq] at hop
      obtain ⟨rfl, rfl, rfl, rfl⟩ := hop
      exact lv_ldc hx hb hown (hts _ (m_w_in hok)) hd (kk rfl hnL lsA hL)
    · next k pl =>
      split at hop
      · next hk =>
        simp only [Option.some.injEq, Prod.mk.injEq] at hop
        obtain ⟨rfl, rfl, rfl, rfl⟩ := hop
        have hs := hF.2.2.2.2.2.2.2.2.2.1 k.toNat hk
        simp only [m_okI] at hok
        split at hok
        · next o j t hq =>
          simp only [Bool.and_eq_true, decide_eq_true_eq] at hok
          obtain ⟨rfl, rfl⟩ := hok
          exact va_ldcS hx hb hown (hs _ hq) hd (kk rfl hnL lsA hL)
        · cases hok
      · cases hop
    · cases hop
  case ldc_w i =>
    unfold m_op1 at hop
    simp only at hop
    split at hop
    · next v pl =>
      simp only [Option.some.injEq, Prod.mk.injEq] at hop
      obtain ⟨rfl, rfl, rfl, rfl⟩ := hop
      exact lv_ldcw hx hb hown (hts _ (m_w_in hok)) hd (kk rfl hnL lsA hL)
    · cases hop
  case ldc2_w i =>
    unfold m_op1 at hop
    simp only at hop
    split at hop
    · next v pl =>
      simp only [Option.some.injEq, Prod.mk.injEq] at hop
      obtain ⟨rfl, rfl, rfl, rfl⟩ := hop
      exact lv_ldc2 hx hb hown (hts _ (m_w_in hok)) hd (kk rfl hnL lsA hL)
    · cases hop
  case iload_n k =>
    simp only [m_op1] at hop
    split at hop
    · next x hq =>
      simp only [Option.some.injEq, Prod.mk.injEq] at hop
      obtain ⟨rfl, rfl, rfl, rfl⟩ := hop
      exact lv_iload_n hx hb hd rfl (m_li_ok hL hq) (kk rfl hnL lsA hL)
    · cases hop
  case iload k =>
    simp only [m_op1] at hop
    split at hop
    · next x hq =>
      simp only [Option.some.injEq, Prod.mk.injEq] at hop
      obtain ⟨rfl, rfl, rfl, rfl⟩ := hop
      exact lv_iload hx hb hd (m_li_ok hL hq) (kk rfl hnL lsA hL)
    · cases hop
  case lload_n k =>
    simp only [m_op1] at hop
    split at hop
    · next x hq =>
      simp only [Option.some.injEq, Prod.mk.injEq] at hop
      obtain ⟨rfl, rfl, rfl, rfl⟩ := hop
      exact lv_lload_n hx hb hd rfl (m_ll_ok hL hq) (kk rfl hnL lsA hL)
    · cases hop
  case lload k =>
    simp only [m_op1] at hop
    split at hop
    · next x hq =>
      simp only [Option.some.injEq, Prod.mk.injEq] at hop
      obtain ⟨rfl, rfl, rfl, rfl⟩ := hop
      exact lv_lload hx hb hd (m_ll_ok hL hq) (kk rfl hnL lsA hL)
    · cases hop
  case aload_n k =>
    simp only [m_op1] at hop
    split at hop
    · next x hq =>
      simp only [Option.some.injEq, Prod.mk.injEq] at hop
      obtain ⟨rfl, rfl, rfl, rfl⟩ := hop
      rcases m_la_ok hL hq with ⟨j, rfl, h1⟩ | ⟨rfl, h1⟩
      · exact lv_aload_n hx hb hd rfl h1 (kk rfl hnL lsA hL)
      · exact lv_aload_nN hx hb hd rfl h1 (kk rfl hnL lsA hL)
    · cases hop
  case aload k =>
    simp only [m_op1] at hop
    split at hop
    · next x hq =>
      simp only [Option.some.injEq, Prod.mk.injEq] at hop
      obtain ⟨rfl, rfl, rfl, rfl⟩ := hop
      rcases m_la_ok hL hq with ⟨j, rfl, h1⟩ | ⟨rfl, h1⟩
      · exact lv_aload hx hb hd h1 (kk rfl hnL lsA hL)
      · exact lv_aloadN hx hb hd h1 (kk rfl hnL lsA hL)
    · cases hop
  case istore_n k =>
    simp only [m_op1] at hop
    split at hop
    · next x r =>
      split at hop
      · next l hq =>
        simp only [Option.some.injEq, Prod.mk.injEq] at hop
        obtain ⟨rfl, rfl, rfl, rfl⟩ := hop
        obtain ⟨h1, h2⟩ := m_s1_ok (vF := vF) hc2 hq
        exact lv_istore_n hx hb hd rfl hL.has (hnL ▸ h1) rfl (fun ls2 h3 => kk rfl (s1len hq) ls2 (m_LH.of h3 h2))
      · cases hop
    · cases hop
  case istore k =>
    simp only [m_op1] at hop
    split at hop
    · next x r =>
      split at hop
      · next l hq =>
        simp only [Option.some.injEq, Prod.mk.injEq] at hop
        obtain ⟨rfl, rfl, rfl, rfl⟩ := hop
        obtain ⟨h1, h2⟩ := m_s1_ok (vF := vF) hc2 hq
        exact lv_istore hx hb hd hL.has (hnL ▸ h1) rfl (fun ls2 h3 => kk rfl (s1len hq) ls2 (m_LH.of h3 h2))
      · cases hop
    · cases hop
  case lstore_n k =>
    simp only [m_op1] at hop
    split at hop
    · next x r =>
      split at hop
      · next l hq =>
        simp only [Option.some.injEq, Prod.mk.injEq] at hop
        obtain ⟨rfl, rfl, rfl, rfl⟩ := hop
        obtain ⟨h1, h2⟩ := m_s2_ok (vF := vF) hc2 hq
        exact lv_lstore_n hx hb hd rfl hL.has (hnL ▸ h1) rfl (fun ls2 h3 => kk rfl (s2len hq) ls2 (m_LH.of h3 h2))
      · cases hop
    · cases hop
  case lstore k =>
    simp only [m_op1] at hop
    split at hop
    · next x r =>
      split at hop
      · next l hq =>
        simp only [Option.some.injEq, Prod.mk.injEq] at hop
        obtain ⟨rfl, rfl, rfl, rfl⟩ := hop
        obtain ⟨h1, h2⟩ := m_s2_ok (vF := vF) hc2 hq
        exact lv_lstore hx hb hd hL.has (hnL ▸ h1) rfl (fun ls2 h3 => kk rfl (s2len hq) ls2 (m_LH.of h3 h2))
      · cases hop
    · cases hop
  case astore_n k =>
    simp only [m_op1] at hop
    split at hop
    · next x r =>
      split at hop
      · next l hq =>
        simp only [Option.some.injEq, Prod.mk.injEq] at hop
        obtain ⟨rfl, rfl, rfl, rfl⟩ := hop
        obtain ⟨h1, h2⟩ := m_s1_ok (vF := vF) hc2 hq
        exact lv_astore_n hx hb hd rfl hL.has (hnL ▸ h1) rfl (fun ls2 h3 => kk rfl (s1len hq) ls2 (m_LH.of h3 h2))
      · cases hop
    · next r =>
      split at hop
      · next l hq =>
        simp only [Option.some.injEq, Prod.mk.injEq] at hop
        obtain ⟨rfl, rfl, rfl, rfl⟩ := hop
        obtain ⟨h1, h2⟩ := m_s1_ok (vF := vF) hc2 hq
        exact lv_astore_nN hx hb hd rfl hL.has (hnL ▸ h1) rfl (fun ls2 h3 => kk rfl (s1len hq) ls2 (m_LH.of h3 h2))
      · cases hop
    · cases hop
  case astore k =>
    simp only [m_op1] at hop
    split at hop
    · next x r =>
      split at hop
      · next l hq =>
        simp only [Option.some.injEq, Prod.mk.injEq] at hop
        obtain ⟨rfl, rfl, rfl, rfl⟩ := hop
        obtain ⟨h1, h2⟩ := m_s1_ok (vF := vF) hc2 hq
        exact lv_astore hx hb hd hL.has (hnL ▸ h1) rfl (fun ls2 h3 => kk rfl (s1len hq) ls2 (m_LH.of h3 h2))
      · cases hop
    · next r =>
      split at hop
      · next l hq =>
        simp only [Option.some.injEq, Prod.mk.injEq] at hop
        obtain ⟨rfl, rfl, rfl, rfl⟩ := hop
        obtain ⟨h1, h2⟩ := m_s1_ok (vF := vF) hc2 hq
        exact lv_astoreN hx hb hd hL.has (hnL ▸ h1) rfl (fun ls2 h3 => kk rfl (s1len hq) ls2 (m_LH.of h3 h2))
      · cases hop
    · cases hop
  case iinc k n =>
    simp only [m_op1] at hop
    split at hop
    · next x hq0 =>
      split at hop
      · next l hq =>
        simp only [Option.some.injEq, Prod.mk.injEq] at hop
        obtain ⟨rfl, rfl, rfl, rfl⟩ := hop
        obtain ⟨h1, h2⟩ := m_s1_ok (vF := vF) hc2 hq
        have hm : (k, Value.int x) ∈ m_lv ad vF 0 ls := by
          unfold m_li at hq0
          split at hq0
          · next y hy => cases hq0; exact (m_lv_mem ad vF ls 0 _).mpr ⟨k, _, hy, by simp [m_v]⟩
          · cases hq0
        obtain ⟨i0, hi0⟩ := List.getElem?_of_mem hm
        exact lv_iinc hx hb hd hL.has hi0 rfl (hnL ▸ h1) rfl (fun ls2 h3 => kk rfl (s1len hq) ls2 (m_LH.of h3 h2))
      · cases hop
    · cases hop
end MS
