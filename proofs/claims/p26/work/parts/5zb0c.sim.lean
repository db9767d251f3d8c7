noncomputable section
/-- both keep a moment -/
theorem R_keep {a b : mG} (h : SIM a b) : rel (F_X5_keep 1 a) (F_X12_keeps b) (fun u t => SIM u t ∧ (∀ j, j < 35 → u.1 j = a.1 j) ∧ (∀ j, 55 ≤ j → u.1 j = a.1 j) ∧ ∀ j, j ≠ 88 → j ≠ 91 → t.1 j = b.1 j) := by
  obtain ⟨⟨n, nb, nc, hn, hnb, e2, e4, e8, H, L, V⟩, P, I⟩ := h
  obtain ⟨c, t, n1, nb1, bk, hc, ht, hn1, hnb1, p1, p2, p3, p4, p5, hbk, hbk2, hm, hP⟩ := P
  have en : n1 = n := (cn_inj (by omega) (by omega)).mp (p4.symm.trans e2)
  subst en
  have enb : nb1 = nb := (cn_inj (by omega) (by omega)).mp (p5.symm.trans e4)
  subst enb
  intro u hu w hw
  have k := V_keep ht hc p1 p2 (hm t ht) p4 hn u hu
  obtain ⟨r1, r2, r3, r4⟩ := E_keeps hc p3 w hw
  have r89 : w.1 89 = b.1 89 := r1 89 (by decide) (by decide)
  have P2 := PSr_keep (w88 := b.1 88) (w88' := w.1 88) (w91' := w.1 91) H hc ht hn p1 p2 p4 hnb p5 hbk hbk2 hm hP V k r3 r4
  have lo : ∀ j, j < 35 → u.1 j = a.1 j := fun j hj => k.2.1 j (by omega) (by omega)
  have hi : ∀ j, 55 ≤ j → u.1 j = a.1 j := fun j hj => k.2.1 j (by omega) (by omega)
  refine ⟨⟨⟨n1, nb1, nc, hn, hnb, by rw [lo 2 (by decide)]; exact e2, by rw [lo 4 (by decide)]; exact e4, by rw [lo 8 (by decide)]; exact e8, ?_, by rw [r89]; exact L, by rw [r89]; exact V⟩, P2, IMG_same I (by rw [lo 0 (by decide)]) (fun j _ h2 => lo j (by omega)) (r2 4 (by decide)) (r1 90 (by decide) (by decide))⟩, lo, hi, r1⟩
  rw [r89]
  obtain ⟨t1, t2, t3, t4, t5, t6, t7, t8, c1, c2, c3, c4⟩ := H
  refine ⟨TWr_same t1 (lo _ (by decide)) (lo _ (by decide)) rfl (fun _ _ _ _ => rfl), TWr_same t2 (lo _ (by decide)) (lo _ (by decide)) rfl (fun _ _ _ _ => rfl), LWr_same t3 (lo _ (by decide)) (lo _ (by decide)) (fun _ _ => rfl), CWr_same t4 (lo _ (by decide)) (lo _ (by decide)) (fun _ _ _ => rfl), TWr_same t5 (lo _ (by decide)) (lo _ (by decide)) rfl (fun _ _ _ _ => rfl), TWr_same t6 (lo _ (by decide)) (lo _ (by decide)) rfl (fun _ _ _ _ => rfl), TWr_same t7 (lo _ (by decide)) (lo _ (by decide)) rfl (fun _ _ _ _ => rfl), TWr_same t8 (lo _ (by decide)) (lo _ (by decide)) rfl (fun _ _ _ _ => rfl), ?_, ?_, ?_, ?_⟩
  · rw [lo 1 (by decide)]; exact c1
  · rw [lo 1 (by decide)]; exact c2
  · rw [lo 1 (by decide)]; exact c3
  · rw [lo 1 (by decide)]; exact c4
end
