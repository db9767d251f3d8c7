noncomputable section
theorem R_best {a b : mG} {n nc g : Nat} {x c : Int32} {y : Int64} (K : HK (b.1 89) n nc a) (hg : g < n) (hs : Su x y) {z : mG} (hz : ∀ j, j ≠ 96 → j ≠ 97 → z.1 j = b.1 j) : rel (F_X1_bestVisit (cn g) x c a) (F_X12_visit_L34 (cn g) c y (ci 0) y (ci 0) z) (fun τ υ => τ.1 = υ.1) := by
  have hn := K.2.2.1
  unfold F_X1_bestVisit
  refine rel_l1 (V_faceK K hg) (fun u0 q0 => ?_)
  obtain ⟨k0, r0⟩ := q0
  unfold F_X1_bestVisit_L20 F_X12_visit_L34
  refine rel_whl (fun v w => v.1 = c ∧ w.1 = cn g ∧ w.2.1 = c ∧ Su v.2.1 w.2.2.1 ∧ v.2.2.1 = w.2.2.2.1 ∧ Su v.2.2.2.1 w.2.2.2.2.1 ∧ (∃ k, k ≤ 23 ∧ v.2.2.2.2.1 = cn (k + 1) ∧ w.2.2.2.2.2.1 = cn k) ∧ (∃ hh, KNc (b.1 89) g hh (b.1 89 113) (b.1 89 (27 + g)) v.2.2.2.2.2) ∧ (∀ j, j ≠ 69 → j ≠ 70 → v.2.2.2.2.2.1 j = a.1 j) ∧ ∀ j, j ≠ 96 → j ≠ 97 → w.2.2.2.2.2.2.1 j = b.1 j) ⟨rfl, rfl, rfl, hs, rfl, hs, ⟨0, by omega, rfl, rfl⟩, ⟨_, k0⟩, fun j h1 _ => r0 j h1, hz⟩ (fun v w hvw => ?_)
  obtain ⟨x3, x4, x5, x6, x7, s⟩ := v
  obtain ⟨y1, y2, y3, y5, y6, y8, t⟩ := w
  obtain ⟨q1o, q2o, q3o, q4o, q5o, q6o, ⟨k, hk, q7o, q8o⟩, ⟨hh, kno⟩, r1o, r2o⟩ := hvw
  have q1 : x3 = c := q1o
  have q2 : y1 = cn g := q2o
  have q3 : y2 = c := q3o
  have q4 : Su x4 y3 := q4o
  have q5 : x5 = y5 := q5o
  have q6 : Su x6 y6 := q6o
  have q7 : x7 = cn (k + 1) := q7o
  have q8 : y8 = cn k := q8o
  have kn : KNc (b.1 89) g hh (b.1 89 113) (b.1 89 (27 + g)) s := kno
  have r1 : ∀ j, j ≠ 69 → j ≠ 70 → s.1 j = a.1 j := r1o
  have r2 : ∀ j, j ≠ 96 → j ≠ 97 → t.1 j = b.1 j := r2o
  clear q1o q2o q3o q4o q5o q6o q7o q8o kno r1o r2o
  rw [q1, q2, q3, q5, q7, q8]
  have Ks : HK (b.1 89) n nc s := HK_row K (fun j h1 h2 _ => r1 j h1 h2)
  have e89 : t.1 89 = b.1 89 := r2 89 (by decide) (by decide)
  have e10 : s.1 1 10 = b.1 89 0 := Ks.1.2.2.2.2.2.2.2.2.2.2.1
  unfold F_X1_bestVisit_B20 F_X12_visit_B34 F_X1_bestVisit_108 F_X12_visit_154
  dsimp only
  by_cases hk2 : 23 ≤ k
  · rw [if_pos (show c8 24 ≤ cn (k + 1) from (cn_le (a := 24) (by omega) (by omega)).mpr (by omega)), if_pos (show c8 23 ≤ cn k from (cn_le (a := 23) (by omega) (by omega)).mpr hk2)]
    refine rel_ifs Iff.rfl (fun _ => rel_some rfl) (fun _ => rel_some ?_)
    show x6 = y6.toInt32
    exact (Su_32 q6).symm
  rw [if_neg (show ¬ c8 24 ≤ cn (k + 1) from fun q => hk2 (by have := (cn_le (a := 24) (by omega) (by omega)).mp q; omega)), if_neg (show ¬ c8 23 ≤ cn k from fun q => hk2 ((cn_le (a := 23) (by omega) (by omega)).mp q)), e10, hr_k (by omega), show c8 27 + cn g = cn (27 + g) from cn_add (a := 27) (by omega), cn_nat (n := 27 + g) (by omega), e89, show c8 20 = cn (20 + 0) by decide, show c8 21 = cn (20 + 1) by decide]
  refine rel_rg ?_
  refine rel_l1 (V_supposeHour kn) (fun u qu => ?_)
  obtain ⟨k1, f1⟩ := qu
  have Ku : HK (b.1 89) n nc u := HK_row Ks (fun j h1 _ _ => f1 j h1)
  rw [show ci 0 = cn 0 from rfl, show ci 1 = cn 1 from rfl]
  refine rel_l2 (V_tellsK (x := 0) Ku k1 (by decide)) (fun v9 s8 qt => ?_)
  obtain ⟨t1o, t2o⟩ := qt
  have t1 : v9 = LV (b.1 89) (FAc (b.1 89) g (b.1 89 0 + cn k) (b.1 89 113) (b.1 89 (27 + g))) 0 := t1o
  have t2 : ∀ j, j ≠ 70 → s8.1 j = u.1 j := t2o
  have k2 : KNc (b.1 89) g (b.1 89 0 + cn k) (b.1 89 113) (b.1 89 (27 + g)) s8 := fun j hj => by rw [t2 69 (by decide)]; exact k1 j hj
  have K8 : HK (b.1 89) n nc s8 := HK_row Ku (fun j _ h2 _ => t2 j h2)
  refine rel_l2 (V_tellsK (x := 1) K8 k2 (by decide)) (fun v13 s12 qt => ?_)
  obtain ⟨t3o, t4o⟩ := qt
  have t3 : v13 = LV (b.1 89) (FAc (b.1 89) g (b.1 89 0 + cn k) (b.1 89 113) (b.1 89 (27 + g))) 1 := t3o
  have t4 : ∀ j, j ≠ 70 → s12.1 j = s8.1 j := t4o
  have k3 : KNc (b.1 89) g (b.1 89 0 + cn k) (b.1 89 113) (b.1 89 (27 + g)) s12 := fun j hj => by rw [t4 69 (by decide)]; exact k2 j hj
  have fr : ∀ j, j ≠ 69 → j ≠ 70 → s12.1 j = a.1 j := fun j h1 h2 => (t4 j h2).trans ((t2 j h2).trans ((f1 j h1).trans (r1 j h1 h2)))
  refine rel_r2 (V_says (x := 0) (nc := nc) (by rw [e89]; exact K.2.2.2.2) (by omega : g < 12) (by decide)) (fun v15 s14 qs => ?_)
  obtain ⟨u1o, u2o⟩ := qs
  rw [e89] at u1o
  have u1 : v15 = LV (b.1 89) (FAc (b.1 89) g (b.1 89 0 + cn k) (b.1 89 113) (b.1 89 (27 + g))) 0 := u1o
  have u2 : ∀ j, j ≠ 96 → j ≠ 97 → s14.1 j = t.1 j := u2o
  have f89 : s14.1 89 = b.1 89 := (u2 89 (by decide) (by decide)).trans e89
  refine rel_rg ?_
  rw [f89]
  refine rel_r2 (V_says (x := 1) (nc := nc) (by rw [f89]; exact K.2.2.2.2) (by omega : g < 12) (by decide)) (fun v19 s18 qs => ?_)
  obtain ⟨w1o, w2o⟩ := qs
  rw [f89] at w1o
  have w1 : v19 = LV (b.1 89) (FAc (b.1 89) g (b.1 89 0 + cn k) (b.1 89 113) (b.1 89 (27 + g))) 1 := w1o
  have w2 : ∀ j, j ≠ 96 → j ≠ 97 → s18.1 j = s14.1 j := w2o
  have fr2 : ∀ j, j ≠ 96 → j ≠ 97 → s18.1 j = b.1 j := fun j h1 h2 => (w2 j h1 h2).trans ((u2 j h1 h2).trans (r2 j h1 h2))
  have ev : v9 = v15 := t1.trans u1.symm
  have ew : v13 = v19 := t3.trans w1.symm
  have b9 : 0 ≤ v15.toInt ∧ v15.toInt ≤ 1000 := by rw [u1]; exact LV_b (by decide)
  have b13 : 0 ≤ v19.toInt ∧ v19.toInt ≤ 1000 := by rw [w1]; exact LV_b (by decide)
  rw [ev, ew]
  have M := Su_mix q4 b9 b13
  refine rel_ri (fun hc => ?_) (fun hc => ?_)
  · rw [if_neg (fun q => (Su_le M q6).mp q hc)]
    exact rel_some (show _ ∧ _ ∧ _ ∧ _ ∧ _ ∧ _ ∧ (∃ k', _) ∧ _ ∧ _ ∧ _ from ⟨rfl, rfl, rfl, M, (cnu (by omega)).symm, M, ⟨k + 1, by omega, cnu (by omega), cnu (by omega)⟩, ⟨_, k3⟩, fr, fr2⟩)
  · rw [if_pos ((Su_le M q6).mpr hc)]
    exact rel_some (show _ ∧ _ ∧ _ ∧ _ ∧ _ ∧ _ ∧ (∃ k', _) ∧ _ ∧ _ ∧ _ from ⟨rfl, rfl, rfl, M, rfl, q6, ⟨k + 1, by omega, cnu (by omega), cnu (by omega)⟩, ⟨_, k3⟩, fr, fr2⟩)
end
