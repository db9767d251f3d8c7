noncomputable section
theorem IMG_same {a b u t : mG} (h : IMGr a b) (e0 : u.1 0 2 = a.1 0 2) (r : ∀ j, 18 ≤ j → j ≤ 34 → u.1 j = a.1 j) (e4 : t.1 88 4 = b.1 88 4) (e90 : t.1 90 = b.1 90) : IMGr u t := by
  obtain ⟨h1, h2, ⟨k1, k2, k3, k4⟩, h3⟩ := h
  unfold IMGr
  rw [e0, e4, e90]
  refine ⟨h1, h2, ⟨TS_row k1 (r _ (by decide) (by decide)), TS_row k2 (r _ (by decide) (by decide)), TS_row k3 (r _ (by decide) (by decide)), TS_row k4 (r _ (by decide) (by decide))⟩, fun hne => ?_⟩
  obtain ⟨q1, n, nc, q2, q3, q4, q5, q6⟩ := h3 hne
  exact ⟨HSr18_row q1 r, n, nc, q2, by rw [r 19 (by decide) (by decide)]; exact q3, by rw [r 25 (by decide) (by decide)]; exact q4, q5, q6⟩
end
