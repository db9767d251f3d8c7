/-! THE WHOLE RUN OF THE LAW, from nothing -/
def m_H1 : mH := m_out (m_in1 0 (fun _ => 0))
def m_H2 : mH := (m_H1.1 ++ [.inr (12, m_df 12)], mz m_H1.2.1 88, mzL m_H1.2.2 88)
def m_in2 (N : Nat) (xs : Nat → Int32) : Option (Option Value × mH) := m_run m_tab N xs 3000 100 me192 0 [some (.ref 88)] [] m_H2
/-- all that is asked of the start, in one -/
abbrev s0F1 (s : mG) : Prop := ∀ p ∈ ([(6, 4, 16), (8, 1, 400), (10, 2, 6), (12, 4, 12), (23, 4, 16), (25, 1, 400), (27, 2, 6), (29, 4, 12), (56, 4, 16), (58, 1, 400), (60, 2, 6), (62, 4, 12), (65, 3, 401)] : List (Nat × Nat × Nat)), s.1 p.1 0 = cn p.2.2 ∧ s.1 p.1 1 = cn p.2.1 ∧ s.1 p.1 3 = 0
abbrev s0F2 (s : mG) : Prop := s.1 55 10 = s.1 88 22 ∧ s.1 55 11 = s.1 88 24
abbrev s0F3 (s : mG) : Prop := s.1 55 9 = cn 0 ∧ s.1 88 15 = cn 0
abbrev s0F4 (s : mG) : Prop := s.1 88 3 = 0 ∧ s.1 88 4 = 0 ∧ s.1 0 2 = 0 ∧ s.1 35 1 = 0 ∧ s.1 35 2 = 0 ∧ s.1 1 8 = s.1 89 113 ∧ s.1 1 9 = s.1 89 114 ∧ s.1 1 10 = s.1 89 0 ∧ s.1 1 11 = s.1 89 1 ∧ s.1 89 0 = 0
abbrev s0F5 (s : mG) : Prop := ∀ p ∈ ([(2, 11, 12), (4, 5, 150), (6, 4, 16), (8, 1, 400), (10, 2, 6), (12, 4, 12), (14, 4, 8), (16, 3, 8), (19, 11, 12), (21, 5, 150), (31, 4, 8), (33, 3, 8)] : List (Nat × Nat × Nat)), s.1 p.1 0 = cn p.2.2 ∧ s.1 p.1 1 = cn p.2.1 ∧ s.1 p.1 3 = 0
abbrev s0F6 (s : mG) : Prop := ∀ k ∈ ([2, 112, 115, 116, 117, 118, 1049] : List Nat), s.1 89 k = 0
abbrev s0F7 (s : mG) : Prop := ∀ i ∈ ([0, 1, 2, 3, 4, 5] : List Nat), s.1 (37 + 3 * i + 1) 0 = cn 12 ∧ s.1 (37 + 3 * i + 1) 1 = cn 11 ∧ s.1 (37 + 3 * i + 1) 3 = 0
abbrev s0F8 (s : mG) : Prop := ([2, 112, 115, 116, 117, 118, 1049, 119, 120, 121, 122, 123, 124, 125, 126, 127, 128, 129, 130] : List Nat).all (fun k => decide (s.1 89 k = 0)) = true
abbrev s0F9 (s : mG) : Prop := s.1 88 3 = 0 ∧ s.1 88 4 = 0 ∧ s.1 88 15 = 0 ∧ s.1 55 9 = 0
abbrev s0F10 (s : mG) : Prop := s.1 2 0 = ci 12 ∧ s.1 2 3 = 0
abbrev s0F11 (s : mG) : Prop := s.1 78 0 = cn 24 ∧ s.1 78 1 = cn 2 ∧ s.1 80 0 = cn 24 ∧ s.1 80 1 = cn 2
def s0B (s : mG) : Bool := decide (s0F1 s) && (decide (s0F2 s) && (decide (s0F3 s) && (decide (s0F4 s) && (decide (s0F5 s) && (decide (s0F6 s) && (decide (s0F7 s) && (decide (s0F8 s) && (decide (s0F9 s) && (decide (s0F10 s) && (decide (s0F11 s)))))))))))
theorem in2_get {a b c : Bool} (h : (a && (b && c)) = true) : a = true ∧ b = true ∧ c = true := ⟨(Bool.and_eq_true_iff.mp h).1, (Bool.and_eq_true_iff.mp (Bool.and_eq_true_iff.mp h).2).1, (Bool.and_eq_true_iff.mp (Bool.and_eq_true_iff.mp h).2).2⟩
theorem s0B_1 {s : mG} (h : s0B s = true) : s0F1 s := of_decide_eq_true (Bool.and_eq_true_iff.mp h).1
theorem s0B_2 {s : mG} (h : s0B s = true) : s0F2 s := of_decide_eq_true (Bool.and_eq_true_iff.mp (Bool.and_eq_true_iff.mp h).2).1
theorem s0B_3 {s : mG} (h : s0B s = true) : s0F3 s := of_decide_eq_true (Bool.and_eq_true_iff.mp (Bool.and_eq_true_iff.mp (Bool.and_eq_true_iff.mp h).2).2).1
theorem s0B_4 {s : mG} (h : s0B s = true) : s0F4 s := of_decide_eq_true (Bool.and_eq_true_iff.mp (Bool.and_eq_true_iff.mp (Bool.and_eq_true_iff.mp (Bool.and_eq_true_iff.mp h).2).2).2).1
theorem s0B_5 {s : mG} (h : s0B s = true) : s0F5 s := of_decide_eq_true (Bool.and_eq_true_iff.mp (Bool.and_eq_true_iff.mp (Bool.and_eq_true_iff.mp (Bool.and_eq_true_iff.mp (Bool.and_eq_true_iff.mp h).2).2).2).2).1
theorem s0B_6 {s : mG} (h : s0B s = true) : s0F6 s := of_decide_eq_true (Bool.and_eq_true_iff.mp (Bool.and_eq_true_iff.mp (Bool.and_eq_true_iff.mp (Bool.and_eq_true_iff.mp (Bool.and_eq_true_iff.mp (Bool.and_eq_true_iff.mp h).2).2).2).2).2).1
theorem s0B_7 {s : mG} (h : s0B s = true) : s0F7 s := of_decide_eq_true (Bool.and_eq_true_iff.mp (Bool.and_eq_true_iff.mp (Bool.and_eq_true_iff.mp (Bool.and_eq_true_iff.mp (Bool.and_eq_true_iff.mp (Bool.and_eq_true_iff.mp (Bool.and_eq_true_iff.mp h).2).2).2).2).2).2).1
theorem s0B_8 {s : mG} (h : s0B s = true) : s0F8 s := of_decide_eq_true (Bool.and_eq_true_iff.mp (Bool.and_eq_true_iff.mp (Bool.and_eq_true_iff.mp (Bool.and_eq_true_iff.mp (Bool.and_eq_true_iff.mp (Bool.and_eq_true_iff.mp (Bool.and_eq_true_iff.mp (Bool.and_eq_true_iff.mp h).2).2).2).2).2).2).2).1
theorem s0B_9 {s : mG} (h : s0B s = true) : s0F9 s := of_decide_eq_true (Bool.and_eq_true_iff.mp (Bool.and_eq_true_iff.mp (Bool.and_eq_true_iff.mp (Bool.and_eq_true_iff.mp (Bool.and_eq_true_iff.mp (Bool.and_eq_true_iff.mp (Bool.and_eq_true_iff.mp (Bool.and_eq_true_iff.mp (Bool.and_eq_true_iff.mp h).2).2).2).2).2).2).2).2).1
theorem s0B_10 {s : mG} (h : s0B s = true) : s0F10 s := of_decide_eq_true (Bool.and_eq_true_iff.mp (Bool.and_eq_true_iff.mp (Bool.and_eq_true_iff.mp (Bool.and_eq_true_iff.mp (Bool.and_eq_true_iff.mp (Bool.and_eq_true_iff.mp (Bool.and_eq_true_iff.mp (Bool.and_eq_true_iff.mp (Bool.and_eq_true_iff.mp (Bool.and_eq_true_iff.mp h).2).2).2).2).2).2).2).2).2).1
theorem s0B_11 {s : mG} (h : s0B s = true) : s0F11 s := of_decide_eq_true (Bool.and_eq_true_iff.mp (Bool.and_eq_true_iff.mp (Bool.and_eq_true_iff.mp (Bool.and_eq_true_iff.mp (Bool.and_eq_true_iff.mp (Bool.and_eq_true_iff.mp (Bool.and_eq_true_iff.mp (Bool.and_eq_true_iff.mp (Bool.and_eq_true_iff.mp (Bool.and_eq_true_iff.mp h).2).2).2).2).2).2).2).2).2).2
theorem m_in2_all : (m_isNone (m_in2 0 (fun _ => 0)) && (decide ((m_out (m_in2 0 (fun _ => 0))).1 = SH) && s0B (m_out (m_in2 0 (fun _ => 0))).2)) = true := by decide +kernel
theorem m_in2_ok : m_isNone (m_in2 0 (fun _ => 0)) = true := (in2_get m_in2_all).1
theorem m_in2_sh : (m_out (m_in2 0 (fun _ => 0))).1 = SH := of_decide_eq_true (in2_get m_in2_all).2.1
/-- the ints and longs when both objects are made -/
def s0 : mG := (m_out (m_in2 0 (fun _ => 0))).2
theorem s0_B : s0B s0 = true := (in2_get m_in2_all).2.2
theorem s0_b1 : ∀ p ∈ ([(6, 4, 16), (8, 1, 400), (10, 2, 6), (12, 4, 12), (23, 4, 16), (25, 1, 400), (27, 2, 6), (29, 4, 12), (56, 4, 16), (58, 1, 400), (60, 2, 6), (62, 4, 12), (65, 3, 401)] : List (Nat × Nat × Nat)), s0.1 p.1 0 = cn p.2.2 ∧ s0.1 p.1 1 = cn p.2.1 ∧ s0.1 p.1 3 = 0 := s0B_1 s0_B
theorem s0_b2 : s0.1 55 10 = s0.1 88 22 ∧ s0.1 55 11 = s0.1 88 24 := s0B_2 s0_B
theorem s0_b3 : s0.1 55 9 = cn 0 ∧ s0.1 88 15 = cn 0 := s0B_3 s0_B
theorem s0_b4 : s0.1 88 3 = 0 ∧ s0.1 88 4 = 0 ∧ s0.1 0 2 = 0 ∧ s0.1 35 1 = 0 ∧ s0.1 35 2 = 0 ∧ s0.1 1 8 = s0.1 89 113 ∧ s0.1 1 9 = s0.1 89 114 ∧ s0.1 1 10 = s0.1 89 0 ∧ s0.1 1 11 = s0.1 89 1 ∧ s0.1 89 0 = 0 := s0B_4 s0_B
theorem s0_b5 : ∀ p ∈ ([(2, 11, 12), (4, 5, 150), (6, 4, 16), (8, 1, 400), (10, 2, 6), (12, 4, 12), (14, 4, 8), (16, 3, 8), (19, 11, 12), (21, 5, 150), (31, 4, 8), (33, 3, 8)] : List (Nat × Nat × Nat)), s0.1 p.1 0 = cn p.2.2 ∧ s0.1 p.1 1 = cn p.2.1 ∧ s0.1 p.1 3 = 0 := s0B_5 s0_B
theorem s0_b6 : ∀ k ∈ ([2, 112, 115, 116, 117, 118, 1049] : List Nat), s0.1 89 k = 0 := s0B_6 s0_B
theorem s0_b7 : ∀ i, i < 6 → s0.1 (37 + 3 * i + 1) 0 = cn 12 ∧ s0.1 (37 + 3 * i + 1) 1 = cn 11 ∧ s0.1 (37 + 3 * i + 1) 3 = 0 := fun i hi => s0B_7 s0_B i (by
  rcases (show i = 0 ∨ i = 1 ∨ i = 2 ∨ i = 3 ∨ i = 4 ∨ i = 5 by omega) with e | e | e | e | e | e <;> rw [e] <;> decide)
theorem s0_b8 : ([2, 112, 115, 116, 117, 118, 1049, 119, 120, 121, 122, 123, 124, 125, 126, 127, 128, 129, 130] : List Nat).all (fun k => decide (s0.1 89 k = 0)) = true := s0B_8 s0_B
theorem s0_b9 : s0.1 88 3 = 0 ∧ s0.1 88 4 = 0 ∧ s0.1 88 15 = 0 ∧ s0.1 55 9 = 0 := s0B_9 s0_B
theorem s0_b10 : s0.1 2 0 = ci 12 ∧ s0.1 2 3 = 0 := s0B_10 s0_B
theorem s0_b11 : s0.1 78 0 = cn 24 ∧ s0.1 78 1 = cn 2 ∧ s0.1 80 0 = cn 24 ∧ s0.1 80 1 = cn 2 := s0B_11 s0_B
set_option maxRecDepth 100000 in
set_option maxHeartbeats 8000000 in
theorem m_in2_eq (N : Nat) (xs : Nat → Int32) : m_in2 N xs = m_in2 0 (fun _ => 0) := rfl
