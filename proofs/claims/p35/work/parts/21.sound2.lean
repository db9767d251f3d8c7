section MS2
variable {p : Program} {l : Launch} {e : Env} {R : Room} {s : State} {m : MethodId} {args : Array Value} {below : List Frame} {meth : Method} {c : Code} {H : Heap} {locs : List Loc} {cells slots : Nat} {Q : State → Prop}
variable {cc : ByteArray} {pc pc' nL : Nat} {lsA : Array Slot} {ls ls' : List (Option Value)} {st st' : List Value} {h h' : mH} {ins : Instr} {aux : List Int} {own nm : String} {tab : List mM}
variable {ad : Nat → Nat} {base : Nat} {vF : Value} {dC : Nat → ClassId} {dI : Nat → Nat → Nat} {dA : Nat → Nat} {N : Nat} {xs : Nat → Int32}
set_option maxHeartbeats 4000000 in
theorem m_op2_ok (hop : m_op2 ins pc ls st h = some (pc', ls', st', h')) (hd : decode cc pc = .ok (ins, m_len ins aux)) (hok : m_okI own nm tab pc ins aux = true) (hx : p.tables.exec = Jvm.exec) (hb : c.code = cc)
    (kk : h' = h → ls' = ls → W p l e R s m args below meth c H locs cells slots Q (F0 m pc' lsA (st'.map (m_v ad vF)))) : W p l e R s m args below meth c H locs cells slots Q (F0 m pc lsA (st.map (m_v ad vF))) := by
  unfold m_op2 at hop
  split at hop
  · next y x r =>
    simp only [Option.some.injEq, Prod.mk.injEq] at hop
    obtain ⟨rfl, rfl, rfl, rfl⟩ := hop
    exact lv_iadd hx hb hd (kk rfl rfl)
  · next y x r =>
    simp only [Option.some.injEq, Prod.mk.injEq] at hop
    obtain ⟨rfl, rfl, rfl, rfl⟩ := hop
    exact lv_isub hx hb hd (kk rfl rfl)
  · next y x r =>
    simp only [Option.some.injEq, Prod.mk.injEq] at hop
    obtain ⟨rfl, rfl, rfl, rfl⟩ := hop
    exact lv_imul hx hb hd (kk rfl rfl)
  · next y x r =>
    simp only [Option.some.injEq, Prod.mk.injEq] at hop
    obtain ⟨rfl, rfl, rfl, rfl⟩ := hop
    exact lv_iand hx hb hd (kk rfl rfl)
  · next y x r =>
    simp only [Option.some.injEq, Prod.mk.injEq] at hop
    obtain ⟨rfl, rfl, rfl, rfl⟩ := hop
    exact lv_ior hx hb hd (kk rfl rfl)
  · next y x r =>
    split at hop
    · cases hop
    · next hne =>
      simp only [Option.some.injEq, Prod.mk.injEq] at hop
      obtain ⟨rfl, rfl, rfl, rfl⟩ := hop
      exact lv_idiv hx hb hd hne (kk rfl rfl)
  · next y x r =>
    split at hop
    · cases hop
    · next hne =>
      simp only [Option.some.injEq, Prod.mk.injEq] at hop
      obtain ⟨rfl, rfl, rfl, rfl⟩ := hop
      exact lv_irem hx hb hd hne (kk rfl rfl)
  · next x r =>
    simp only [Option.some.injEq, Prod.mk.injEq] at hop
    obtain ⟨rfl, rfl, rfl, rfl⟩ := hop
    exact lv_ineg hx hb hd (kk rfl rfl)
  · next y x r =>
    simp only [Option.some.injEq, Prod.mk.injEq] at hop
    obtain ⟨rfl, rfl, rfl, rfl⟩ := hop
    exact lv_ishl hx hb hd (kk rfl rfl)
  · next y x r =>
    simp only [Option.some.injEq, Prod.mk.injEq] at hop
    obtain ⟨rfl, rfl, rfl, rfl⟩ := hop
    exact lv_ishr hx hb hd (kk rfl rfl)
  · next y x r =>
    simp only [Option.some.injEq, Prod.mk.injEq] at hop
    obtain ⟨rfl, rfl, rfl, rfl⟩ := hop
    exact lv_iushr hx hb hd rfl (kk rfl rfl)
  · next y x r =>
    simp only [Option.some.injEq, Prod.mk.injEq] at hop
    obtain ⟨rfl, rfl, rfl, rfl⟩ := hop
    exact lv_ladd hx hb hd (kk rfl rfl)
  · next y x r =>
    simp only [Option.some.injEq, Prod.mk.injEq] at hop
    obtain ⟨rfl, rfl, rfl, rfl⟩ := hop
    exact lv_lsub hx hb hd (kk rfl rfl)
  · next y x r =>
    simp only [Option.some.injEq, Prod.mk.injEq] at hop
    obtain ⟨rfl, rfl, rfl, rfl⟩ := hop
    exact lv_lmul hx hb hd (kk rfl rfl)
  · next y x r =>
    split at hop
    · cases hop
    · next hne =>
      simp only [Option.some.injEq, Prod.mk.injEq] at hop
      obtain ⟨rfl, rfl, rfl, rfl⟩ := hop
      exact lv_ldiv hx hb hd hne (kk rfl rfl)
  · next y x r =>
    simp only [Option.some.injEq, Prod.mk.injEq] at hop
    obtain ⟨rfl, rfl, rfl, rfl⟩ := hop
    exact W.lcmp hx hb hd (kk rfl rfl)
  · next x r =>
    simp only [Option.some.injEq, Prod.mk.injEq] at hop
    obtain ⟨rfl, rfl, rfl, rfl⟩ := hop
    exact lv_i2l hx hb hd rfl (kk rfl rfl)
  · next x r =>
    simp only [Option.some.injEq, Prod.mk.injEq] at hop
    obtain ⟨rfl, rfl, rfl, rfl⟩ := hop
    exact lv_l2i hx hb hd rfl (kk rfl rfl)
  · next x r =>
    simp only [Option.some.injEq, Prod.mk.injEq] at hop
    obtain ⟨rfl, rfl, rfl, rfl⟩ := hop
    exact lv_i2c hx hb hd rfl (kk rfl rfl)
  · next x r =>
    simp only [Option.some.injEq, Prod.mk.injEq] at hop
    obtain ⟨rfl, rfl, rfl, rfl⟩ := hop
    exact lv_dup hx hb hd rfl (kk rfl rfl)
  · next x r =>
    simp only [Option.some.injEq, Prod.mk.injEq] at hop
    obtain ⟨rfl, rfl, rfl, rfl⟩ := hop
    exact lv_dup hx hb hd rfl (kk rfl rfl)
  · next x y r =>
    simp only [Option.some.injEq, Prod.mk.injEq] at hop
    obtain ⟨rfl, rfl, rfl, rfl⟩ := hop
    exact lv_dup2_11 hx hb hd rfl rfl (kk rfl rfl)
  · next x r =>
    simp only [Option.some.injEq, Prod.mk.injEq] at hop
    obtain ⟨rfl, rfl, rfl, rfl⟩ := hop
    exact lv_pop hx hb hd rfl (kk rfl rfl)
  · next off st =>
    simp only [Option.some.injEq, Prod.mk.injEq] at hop
    obtain ⟨rfl, rfl, rfl, rfl⟩ := hop
    exact lv_goto hx hb hd (m_jmp_ok hok) (kk rfl rfl)
  · next cnd off x r =>
    simp only [Option.some.injEq, Prod.mk.injEq] at hop
    obtain ⟨rfl, rfl, rfl, rfl⟩ := hop
    have kk := kk rfl rfl
    cases cnd <;> simp only [m_if] at kk
    · exact lv_if_eq hx hb hd (m_jmp_ok hok) (fun q => by rw [if_pos q] at kk; exact kk) (fun q => by rw [if_neg q] at kk; exact kk)
    · exact lv_if_ne hx hb hd (m_jmp_ok hok) (fun q => by rw [if_neg q] at kk; exact kk) (fun q => by rw [if_pos q] at kk; exact kk)
    · exact lv_if_lt hx hb hd (m_jmp_ok hok) (fun q => by rw [if_pos q] at kk; exact kk) (fun q => by rw [if_neg q] at kk; exact kk)
    · exact lv_if_ge hx hb hd (m_jmp_ok hok) (fun q => by rw [if_pos q] at kk; exact kk) (fun q => by rw [if_neg q] at kk; exact kk)
    · exact lv_if_gt hx hb hd (m_jmp_ok hok) (fun q => by rw [if_pos q] at kk; exact kk) (fun q => by rw [if_neg q] at kk; exact kk)
    · exact lv_if_le hx hb hd (m_jmp_ok hok) (fun q => by rw [if_pos q] at kk; exact kk) (fun q => by rw [if_neg q] at kk; exact kk)
  · next cnd off y x r =>
    simp only [Option.some.injEq, Prod.mk.injEq] at hop
    obtain ⟨rfl, rfl, rfl, rfl⟩ := hop
    have kk := kk rfl rfl
    cases cnd <;> simp only [m_if] at kk
    · exact lv_icmp_eq hx hb hd (m_jmp_ok hok) (fun q => by rw [if_pos q] at kk; exact kk) (fun q => by rw [if_neg q] at kk; exact kk)
    · exact lv_icmp_ne hx hb hd (m_jmp_ok hok) (fun q => by rw [if_neg q] at kk; exact kk) (fun q => by rw [if_pos q] at kk; exact kk)
    · exact lv_icmp_lt hx hb hd (m_jmp_ok hok) (fun q => by rw [if_pos q] at kk; exact kk) (fun q => by rw [if_neg q] at kk; exact kk)
    · exact lv_icmp_ge hx hb hd (m_jmp_ok hok) (fun q => by rw [if_pos q] at kk; exact kk) (fun q => by rw [if_neg q] at kk; exact kk)
    · exact lv_icmp_gt hx hb hd (m_jmp_ok hok) (fun q => by rw [if_pos q] at kk; exact kk) (fun q => by rw [if_neg q] at kk; exact kk)
    · exact lv_icmp_le hx hb hd (m_jmp_ok hok) (fun q => by rw [if_pos q] at kk; exact kk) (fun q => by rw [if_neg q] at kk; exact kk)
  · next off r =>
    simp only [Option.some.injEq, Prod.mk.injEq] at hop
    obtain ⟨rfl, rfl, rfl, rfl⟩ := hop
    exact lv_ifnullN hx hb hd (m_jmp_ok hok) (kk rfl rfl)
  · next off x r =>
    simp only [Option.some.injEq, Prod.mk.injEq] at hop
    obtain ⟨rfl, rfl, rfl, rfl⟩ := hop
    exact lv_ifnull hx hb hd (kk rfl rfl)
  · next off r =>
    simp only [Option.some.injEq, Prod.mk.injEq] at hop
    obtain ⟨rfl, rfl, rfl, rfl⟩ := hop
    exact lv_ifnonnullN hx hb hd (kk rfl rfl)
  · next off x r =>
    simp only [Option.some.injEq, Prod.mk.injEq] at hop
    obtain ⟨rfl, rfl, rfl, rfl⟩ := hop
    exact lv_ifnonnull hx hb hd (m_jmp_ok hok) (kk rfl rfl)
  · next d lo hi offs x r =>
    simp only [m_okI, Bool.and_eq_true, List.all_eq_true] at hok
    split at hop
    · next hq =>
      simp only [Option.some.injEq, Prod.mk.injEq] at hop
      obtain ⟨rfl, rfl, rfl, rfl⟩ := hop
      exact lv_tableOut hx hb hd hq (m_jmp_ok hok.1) (kk rfl rfl)
    · next hq =>
      split at hop
      · next o ho =>
        simp only [Option.some.injEq, Prod.mk.injEq] at hop
        obtain ⟨rfl, rfl, rfl, rfl⟩ := hop
        exact lv_tableIn hx hb hd (fun z => hq (Or.inl z)) (fun z => hq (Or.inr z)) (by rw [← Array.getElem?_toList]; exact ho) (m_jmp_ok (hok.2 o (List.mem_of_getElem? ho))) (kk rfl rfl)
      · cases hop
  · cases hop
end MS2
