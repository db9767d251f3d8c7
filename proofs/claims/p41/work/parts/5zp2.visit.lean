noncomputable section
theorem lo32 {A : Int} (h : 0 ≤ A ∧ A < 2147483648) : (-2147483648 ≤ A ∧ A < 2147483648) ∧ -9223372036854775808 ≤ A ∧ A < 9223372036854775808 := by omega
theorem mix_32 {x p q : Int32} {A B C D : Int} (hx : 0 ≤ x.toInt ∧ x.toInt ≤ 1000000) (hA : x.toInt * p.toInt = A) (hB : (1000000 - x.toInt) * q.toInt = B) (hC : A / 1000 = C) (hD : B / 1000 = D) (a : 0 ≤ A ∧ A < 2147483648) (b : 0 ≤ B ∧ B < 2147483648) (c : 0 ≤ x.toInt - C ∧ x.toInt - C < 2147483648) (d : 0 ≤ x.toInt - C + D ∧ x.toInt - C + D < 2147483648) : ((x - (x * p) / c16 1000) + ((ci 1000000 - x) * q) / c16 1000).toInt = x.toInt - C + D := by
  have s1 : (ci 1000000 - x).toInt = 1000000 - x.toInt := r_sub (by decide : (ci 1000000).toInt = 1000000) rfl (by omega) (by omega)
  have aa := (lo32 a).1
  have bb := (lo32 b).1
  have cc := (lo32 c).1
  have dd := (lo32 d).1
  have k : (c16 1000).toInt = 1000 := by decide
  have c1 : (x * p).toInt = A := by
    rw [← hA] at aa ⊢
    exact r_mul rfl rfl aa.1 aa.2
  have c2 : ((ci 1000000 - x) * q).toInt = B := by
    rw [← hB] at bb ⊢
    exact r_mul s1 rfl bb.1 bb.2
  have f1 : ((x * p) / c16 1000).toInt = C := (t_div c1 k a.1 (by decide)).trans hC
  have f2 : (((ci 1000000 - x) * q) / c16 1000).toInt = D := (t_div c2 k b.1 (by decide)).trans hD
  have u1 : (x - (x * p) / c16 1000).toInt = x.toInt - C := r_sub rfl f1 cc.1 cc.2
  exact r_add u1 f2 dd.1 dd.2
theorem mix_64 {X : Int} {y p q : Int64} {P Q A B C D : Int} (hy : y.toInt = X) (hp : p.toInt = P) (hq : q.toInt = Q) (hx : 0 ≤ X ∧ X ≤ 1000000) (hA : X * P = A) (hB : (1000000 - X) * Q = B) (hC : A / 1000 = C) (hD : B / 1000 = D) (a : 0 ≤ A ∧ A < 2147483648) (b : 0 ≤ B ∧ B < 2147483648) (c : 0 ≤ X - C ∧ X - C < 2147483648) (d : 0 ≤ X - C + D ∧ X - C + D < 2147483648) : ((y - (y * p) / cl 1000) + ((cl 1000000 - y) * q) / cl 1000).toInt = X - C + D := by
  have s1 : (cl 1000000 - y).toInt = 1000000 - X := l_sub (by decide : (cl 1000000).toInt = 1000000) hy (by omega) (by omega)
  have aa := (lo32 a).2
  have bb := (lo32 b).2
  have cc := (lo32 c).2
  have dd := (lo32 d).2
  have k : (cl 1000).toInt = 1000 := by decide
  have c1 : (y * p).toInt = A := by
    rw [← hA] at aa ⊢
    exact l_mul hy hp aa.1 aa.2
  have c2 : ((cl 1000000 - y) * q).toInt = B := by
    rw [← hB] at bb ⊢
    exact l_mul s1 hq bb.1 bb.2
  have f1 : ((y * p) / cl 1000).toInt = C := (l_div c1 k a.1 (by decide) aa.2).trans hC
  have f2 : (((cl 1000000 - y) * q) / cl 1000).toInt = D := (l_div c2 k b.1 (by decide) bb.2).trans hD
  have u1 : (y - (y * p) / cl 1000).toInt = X - C := l_sub hy f1 cc.1 cc.2
  exact l_add u1 f2 dd.1 dd.2
theorem Su_mix {x p q : Int32} {y : Int64} (h : Su x y) (hp : 0 ≤ p.toInt ∧ p.toInt ≤ 1000) (hq : 0 ≤ q.toInt ∧ q.toInt ≤ 1000) : Su ((x - (x * p) / c16 1000) + ((ci 1000000 - x) * q) / c16 1000) ((y - (y * p.toInt64) / cl 1000) + ((cl 1000000 - y) * q.toInt64) / cl 1000) := by
  obtain ⟨A, B, C, D, hA, hB, hC, hD, ra, rb, rc, d1, d2⟩ := mix_i h.2.1 h.2.2 hp.1 hp.2 hq.1 hq.2
  have rd : 0 ≤ x.toInt - C + D ∧ x.toInt - C + D < 2147483648 := ⟨d1, Int.lt_of_le_of_lt d2 (by decide)⟩
  have u := mix_32 h.2 hA hB hC hD ra rb rc rd
  have v := mix_64 (Su_t h) (Int32.toInt_toInt64 p) (Int32.toInt_toInt64 q) h.2 hA hB hC hD ra rb rc rd
  refine (show _ ∧ _ ∧ _ from ⟨Int64.toInt_inj.mp (v.trans ((Int32.toInt_toInt64 _).trans u).symm), ?_, ?_⟩)
  · rw [u]; exact d1
  · rw [u]; exact d2
end
