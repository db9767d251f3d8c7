noncomputable section
/-! THE LAW COMES TO ITS 1 -/
theorem CRM_state {a1 : Int32} {u : mG} (hI : IM u) (h : CRs u) : pk (F_X12_state a1 u) (fun υ => CRs υ.2) := CR_of (M := 928455029464035206174343168) (by decide +kernel) h (fun υ e => (ok_pk (T_X12_state hI) υ e).2.2) (K_X12_state kv0) (W_X12_state (M := 928455029464035206174343168) (z := u) sub_rfl KB_rfl)
theorem AC_state {a1 : Int32} {s : mG} (h : JL2 s) : ok (F_X11_state a1 s) (fun τ => JL2 τ.2 ∧ ∀ j, 88 ≤ j → τ.2.1 j = s.1 j) := by
  refine ok_k (T_X11_state h.1) (W_X11_state (M := 34359738370) (z := s) sub_rfl KB_rfl) (fun τ q w => ?_)
  have w : KB 34359738370 s τ.2 := w
  exact ⟨JC2 h q (KB_rng w (a := 6) (n := 8) (by decide +kernel)) (KB_rng w (a := 19) (n := 16) (by decide +kernel)) (KB_rng w (a := 55) (n := 13) (by decide +kernel)), q.2.1⟩
theorem AM_state {a1 : Int32} {s : mG} (h : JL2 s) : ok (F_X12_state a1 s) (fun τ => JL2 τ.2 ∧ ∀ j, j < 88 → τ.2.1 j = s.1 j) := by
  refine ok_kk (T_X12_state h.2.1) (QQ_X12_state kqw0) (W_X12_state (M := 928455029464035206174343168) (z := s) sub_rfl KB_rfl) (fun τ q e w => ?_)
  have w : KB 928455029464035206174343168 s τ.2 := w
  exact ⟨JM2 h q.2.1.1 q.2.1.2.1 e (w 95 (by decide +kernel)), q.2.1.2.1⟩
theorem P4_state {a1 : Int32} {s : mG} (h : JS s) : ok (F_X11_state a1 s) (fun τ => ok (F_X12_state a1 τ.2) (fun υ => JS υ.2 ∧ τ.1 = υ.1)) :=
  P4_of (F := F_X11_state a1) (G := F_X12_state a1) h (AC_state h.1) (fun u hu => AM_state hu) (fun u hu => R_state hu)
theorem PX4_state {a1 : Int32} {s : mG} (h : JSx s) : ok (F_X11_state a1 s) (fun τ => ok (F_X12_state a1 τ.2) (fun υ => JSx υ.2 ∧ τ.1 = υ.1)) :=
  P4x_of (F := F_X11_state a1) (G := F_X12_state a1) (E := fun τ υ => τ.1 = υ.1) h (P4_state h.1) (ok_mono (AC_state h.1.1) (fun _ q => ⟨q.1.2.1, q.2⟩)) (fun u hu hr => CRM_state hu hr)
theorem CRM_guest {a1 : Int32} {a2 : Int32} {u : mG} (hI : IM u) (h : CRs u) : pk (F_X12_guest a1 a2 u) (fun υ => CRs υ.2) := fun υ e => CR_guest hI h (ok_pk (T_X12_guest hI) υ e) (K_X12_guest kv0 υ e) (W_X12_guest (M := 928455029464035206174343168) (z := u) sub_rfl KB_rfl υ e 90 (by decide +kernel))
theorem AC_guest {a1 : Int32} {a2 : Int32} {s : mG} (h : JL2 s) : ok (F_X11_guest a1 a2 s) (fun τ => JL2 τ.2 ∧ ∀ j, 88 ≤ j → τ.2.1 j = s.1 j) := by
  refine ok_k (T_X11_guest h.1) (W_X11_guest (M := 34359738380) (z := s) sub_rfl KB_rfl) (fun τ q w => ?_)
  have w : KB 34359738380 s τ.2 := w
  exact ⟨JC2 h q (KB_rng w (a := 6) (n := 8) (by decide +kernel)) (KB_rng w (a := 19) (n := 16) (by decide +kernel)) (KB_rng w (a := 55) (n := 13) (by decide +kernel)), q.2.1⟩
theorem AM_guest {a1 : Int32} {a2 : Int32} {s : mG} (h : JL2 s) : ok (F_X12_guest a1 a2 s) (fun τ => JL2 τ.2 ∧ ∀ j, j < 88 → τ.2.1 j = s.1 j) := by
  refine ok_kk (T_X12_guest h.2.1) (QQ_X12_guest kqw0) (W_X12_guest (M := 928455029464035206174343168) (z := s) sub_rfl KB_rfl) (fun τ q e w => ?_)
  have w : KB 928455029464035206174343168 s τ.2 := w
  exact ⟨JM2 h q.1.1 q.1.2.1 e (w 95 (by decide +kernel)), q.1.2.1⟩
theorem P4_guest {a1 : Int32} {a2 : Int32} {s : mG} (h : JS s) : ok (F_X11_guest a1 a2 s) (fun τ => ok (F_X12_guest a1 a2 τ.2) (fun υ => JS υ.2 ∧ τ.1 = υ.1)) :=
  P4_of (F := F_X11_guest a1 a2) (G := F_X12_guest a1 a2) h (AC_guest h.1) (fun u hu => AM_guest hu) (fun u hu => R_guest hu)
theorem PX4_guest {a1 : Int32} {a2 : Int32} {s : mG} (h : JSx s) : ok (F_X11_guest a1 a2 s) (fun τ => ok (F_X12_guest a1 a2 τ.2) (fun υ => JSx υ.2 ∧ τ.1 = υ.1)) :=
  P4x_of (F := F_X11_guest a1 a2) (G := F_X12_guest a1 a2) (E := fun τ υ => τ.1 = υ.1) h (P4_guest h.1) (ok_mono (AC_guest h.1.1) (fun _ q => ⟨q.1.2.1, q.2⟩)) (fun u hu hr => CRM_guest hu hr)
theorem CRM_set {a1 : Int32} {a2 : Int32} {a3 : Int32} {u : mG} (hI : IM u) (h : CRs u) : pk (F_X12_set a1 a2 a3 u) (fun υ => CRs υ.2) := CR_of (M := 928455029464035206174343168) (by decide +kernel) h (fun υ e => (ok_pk (T_X12_set hI) υ e).2.2) (K_X12_set kv0) (W_X12_set (M := 928455029464035206174343168) (z := u) sub_rfl KB_rfl)
theorem AC_set {a1 : Int32} {a2 : Int32} {a3 : Int32} {s : mG} (h : JL2 s) : ok (F_X11_set a1 a2 a3 s) (fun τ => JL2 τ.2 ∧ ∀ j, 88 ≤ j → τ.2.1 j = s.1 j) := by
  refine ok_k (T_X11_set h.1) (W_X11_set (M := 34359738378) (z := s) sub_rfl KB_rfl) (fun τ q w => ?_)
  have w : KB 34359738378 s τ.2 := w
  exact ⟨JC2 h q.2 (KB_rng w (a := 6) (n := 8) (by decide +kernel)) (KB_rng w (a := 19) (n := 16) (by decide +kernel)) (KB_rng w (a := 55) (n := 13) (by decide +kernel)), q.2.2.1⟩
theorem AM_set {a1 : Int32} {a2 : Int32} {a3 : Int32} {s : mG} (h : JL2 s) : ok (F_X12_set a1 a2 a3 s) (fun τ => JL2 τ.2 ∧ ∀ j, j < 88 → τ.2.1 j = s.1 j) := by
  refine ok_kk (T_X12_set h.2.1) (QQ_X12_set kqw0) (W_X12_set (M := 928455029464035206174343168) (z := s) sub_rfl KB_rfl) (fun τ q e w => ?_)
  have w : KB 928455029464035206174343168 s τ.2 := w
  exact ⟨JM2 h q.2.1.1 q.2.1.2.1 e (w 95 (by decide +kernel)), q.2.1.2.1⟩
theorem P4_set {a1 : Int32} {a2 : Int32} {a3 : Int32} {s : mG} (h : JS s) : ok (F_X11_set a1 a2 a3 s) (fun τ => ok (F_X12_set a1 a2 a3 τ.2) (fun υ => JS υ.2 ∧ τ.1 = υ.1)) :=
  P4_of (F := F_X11_set a1 a2 a3) (G := F_X12_set a1 a2 a3) h (AC_set h.1) (fun u hu => AM_set hu) (fun u hu => R_set hu)
theorem PX4_set {a1 : Int32} {a2 : Int32} {a3 : Int32} {s : mG} (h : JSx s) : ok (F_X11_set a1 a2 a3 s) (fun τ => ok (F_X12_set a1 a2 a3 τ.2) (fun υ => JSx υ.2 ∧ τ.1 = υ.1)) :=
  P4x_of (F := F_X11_set a1 a2 a3) (G := F_X12_set a1 a2 a3) (E := fun τ υ => τ.1 = υ.1) h (P4_set h.1) (ok_mono (AC_set h.1.1) (fun _ q => ⟨q.1.2.1, q.2⟩)) (fun u hu hr => CRM_set hu hr)
theorem CRM_hang {a1 : Int32} {a2 : Int32} {u : mG} (hI : IM u) (h : CRs u) : pk (F_X12_hang a1 a2 u) (fun υ => CRs υ.2) := CR_of (M := 3404335108034795755972591616) (by decide +kernel) h (fun υ e => (ok_pk (T_X12_hang hI) υ e).2.2) (K_X12_hang kv0) (W_X12_hang (M := 3404335108034795755972591616) (z := u) sub_rfl KB_rfl)
theorem AC_hang {a1 : Int32} {a2 : Int32} {s : mG} (h : JL2 s) : ok (F_X11_hang a1 a2 s) (fun τ => JL2 τ.2 ∧ ∀ j, 88 ≤ j → τ.2.1 j = s.1 j) := by
  refine ok_k (T_X11_hang h.1) (W_X11_hang (M := 36028693939748920) (z := s) sub_rfl KB_rfl) (fun τ q w => ?_)
  have w : KB 36028693939748920 s τ.2 := w
  exact ⟨JC2 h q.2 (KB_rng w (a := 6) (n := 8) (by decide +kernel)) (KB_rng w (a := 19) (n := 16) (by decide +kernel)) (KB_rng w (a := 55) (n := 13) (by decide +kernel)), q.2.2.1⟩
theorem AM_hang {a1 : Int32} {a2 : Int32} {s : mG} (h : JL2 s) : ok (F_X12_hang a1 a2 s) (fun τ => JL2 τ.2 ∧ ∀ j, j < 88 → τ.2.1 j = s.1 j) := by
  refine ok_kk (T_X12_hang h.2.1) (QQ_X12_hang kqw0) (W_X12_hang (M := 3404335108034795755972591616) (z := s) sub_rfl KB_rfl) (fun τ q e w => ?_)
  have w : KB 3404335108034795755972591616 s τ.2 := w
  exact ⟨JM2 h q.2.1.1 q.2.1.2.1 e (w 95 (by decide +kernel)), q.2.1.2.1⟩
theorem P4_hang {a1 : Int32} {a2 : Int32} {s : mG} (h : JS s) : ok (F_X11_hang a1 a2 s) (fun τ => ok (F_X12_hang a1 a2 τ.2) (fun υ => JS υ.2 ∧ τ.1 = υ.1)) :=
  P4_of (F := F_X11_hang a1 a2) (G := F_X12_hang a1 a2) h (AC_hang h.1) (fun u hu => AM_hang hu) (fun u hu => R_hang hu)
theorem PX4_hang {a1 : Int32} {a2 : Int32} {s : mG} (h : JSx s) : ok (F_X11_hang a1 a2 s) (fun τ => ok (F_X12_hang a1 a2 τ.2) (fun υ => JSx υ.2 ∧ τ.1 = υ.1)) :=
  P4x_of (F := F_X11_hang a1 a2) (G := F_X12_hang a1 a2) (E := fun τ υ => τ.1 = υ.1) h (P4_hang h.1) (ok_mono (AC_hang h.1.1) (fun _ q => ⟨q.1.2.1, q.2⟩)) (fun u hu hr => CRM_hang hu hr)
theorem CRM_looks {a1 : Int32} {a2 : Int32} {a3 : Int32} {u : mG} (hI : IM u) (h : CRs u) : pk (F_X12_looks a1 a2 a3 u) (fun υ => CRs υ.2) := CR_of (M := 3404335108034795755972591616) (by decide +kernel) h (fun υ e => (ok_pk (T_X12_looks hI) υ e).2.2) (K_X12_looks kv0) (W_X12_looks (M := 3404335108034795755972591616) (z := u) sub_rfl KB_rfl)
theorem AC_looks {a1 : Int32} {a2 : Int32} {a3 : Int32} {s : mG} (h : JL2 s) : ok (F_X11_looks a1 a2 a3 s) (fun τ => JL2 τ.2 ∧ ∀ j, 88 ≤ j → τ.2.1 j = s.1 j) := by
  refine ok_k (T_X11_looks h.1) (W_X11_looks (M := 36028693939748872) (z := s) sub_rfl KB_rfl) (fun τ q w => ?_)
  have w : KB 36028693939748872 s τ.2 := w
  exact ⟨JC2 h q.2 (KB_rng w (a := 6) (n := 8) (by decide +kernel)) (KB_rng w (a := 19) (n := 16) (by decide +kernel)) (KB_rng w (a := 55) (n := 13) (by decide +kernel)), q.2.2.1⟩
theorem AM_looks {a1 : Int32} {a2 : Int32} {a3 : Int32} {s : mG} (h : JL2 s) : ok (F_X12_looks a1 a2 a3 s) (fun τ => JL2 τ.2 ∧ ∀ j, j < 88 → τ.2.1 j = s.1 j) := by
  refine ok_kk (T_X12_looks h.2.1) (QQ_X12_looks kqw0) (W_X12_looks (M := 3404335108034795755972591616) (z := s) sub_rfl KB_rfl) (fun τ q e w => ?_)
  have w : KB 3404335108034795755972591616 s τ.2 := w
  exact ⟨JM2 h q.2.1.1 q.2.1.2.1 e (w 95 (by decide +kernel)), q.2.1.2.1⟩
theorem P4_looks {a1 : Int32} {a2 : Int32} {a3 : Int32} {s : mG} (h : JS s) : ok (F_X11_looks a1 a2 a3 s) (fun τ => ok (F_X12_looks a1 a2 a3 τ.2) (fun υ => JS υ.2 ∧ τ.1 = υ.1)) :=
  P4_of (F := F_X11_looks a1 a2 a3) (G := F_X12_looks a1 a2 a3) h (AC_looks h.1) (fun u hu => AM_looks hu) (fun u hu => R_looks hu)
theorem PX4_looks {a1 : Int32} {a2 : Int32} {a3 : Int32} {s : mG} (h : JSx s) : ok (F_X11_looks a1 a2 a3 s) (fun τ => ok (F_X12_looks a1 a2 a3 τ.2) (fun υ => JSx υ.2 ∧ τ.1 = υ.1)) :=
  P4x_of (F := F_X11_looks a1 a2 a3) (G := F_X12_looks a1 a2 a3) (E := fun τ υ => τ.1 = υ.1) h (P4_looks h.1) (ok_mono (AC_looks h.1.1) (fun _ q => ⟨q.1.2.1, q.2⟩)) (fun u hu hr => CRM_looks hu hr)
theorem CRM_hours {a1 : Int32} {u : mG} (hI : IM u) (h : CRs u) : pk (F_X12_hours a1 u) (fun υ => CRs υ.2) := CR_of (M := 241088822650827808536604442624) (by decide +kernel) h (fun υ e => (ok_pk (T_X12_hours hI) υ e).2.2) (K_X12_hours kv0) (W_X12_hours (M := 241088822650827808536604442624) (z := u) sub_rfl KB_rfl)
theorem AC_hours {a1 : Int32} {s : mG} (h : JL2 s) : ok (F_X11_hours a1 s) (fun τ => JL2 τ.2 ∧ ∀ j, 88 ≤ j → τ.2.1 j = s.1 j) := by
  refine ok_k (T_X11_hours h.1) (W_X11_hours (M := 6493289942639701917754) (z := s) sub_rfl KB_rfl) (fun τ q w => ?_)
  have w : KB 6493289942639701917754 s τ.2 := w
  exact ⟨JC2 h q (KB_rng w (a := 6) (n := 8) (by decide +kernel)) (KB_rng w (a := 19) (n := 16) (by decide +kernel)) (KB_rng w (a := 55) (n := 13) (by decide +kernel)), q.2.1⟩
theorem AM_hours {a1 : Int32} {s : mG} (h : JL2 s) : ok (F_X12_hours a1 s) (fun τ => JL2 τ.2 ∧ ∀ j, j < 88 → τ.2.1 j = s.1 j) := by
  refine ok_kk (T_X12_hours h.2.1) (QQ_X12_hours kqw0) (W_X12_hours (M := 241088822650827808536604442624) (z := s) sub_rfl KB_rfl) (fun τ q e w => ?_)
  have w : KB 241088822650827808536604442624 s τ.2 := w
  exact ⟨JM2 h q.2.1.1 q.2.1.2.1 e (w 95 (by decide +kernel)), q.2.1.2.1⟩
theorem P4_hours {a1 : Int32} {s : mG} (h : JS s) : ok (F_X11_hours a1 s) (fun τ => ok (F_X12_hours a1 τ.2) (fun υ => JS υ.2 ∧ τ.1 = υ.1)) :=
  P4_of (F := F_X11_hours a1) (G := F_X12_hours a1) h (AC_hours h.1) (fun u hu => AM_hours hu) (fun u hu => R_hours hu)
theorem PX4_hours {a1 : Int32} {s : mG} (h : JSx s) : ok (F_X11_hours a1 s) (fun τ => ok (F_X12_hours a1 τ.2) (fun υ => JSx υ.2 ∧ τ.1 = υ.1)) :=
  P4x_of (F := F_X11_hours a1) (G := F_X12_hours a1) (E := fun τ υ => τ.1 = υ.1) h (P4_hours h.1) (ok_mono (AC_hours h.1.1) (fun _ q => ⟨q.1.2.1, q.2⟩)) (fun u hu hr => CRM_hours hu hr)
theorem CRM_feed {a1 : Int32} {a2 : Int32} {a3 : Int32} {a4 : Int32} {a5 : Int32} {u : mG} (hI : IM u) (h : CRs u) : pk (F_X12_feed a1 a2 a3 a4 a5 u) (fun υ => CRs υ.2) := CR_of (M := 39923566266953513865496756224) (by decide +kernel) h (fun υ e => (ok_pk (T_X12_feed hI) υ e).1.2.2) (K_X12_feed kv0) (W_X12_feed (M := 39923566266953513865496756224) (z := u) sub_rfl KB_rfl)
theorem PX4_feed {a1 : Int32} {a2 : Int32} {a3 : Int32} {a4 : Int32} {a5 : Int32} {s : mG} (h : JSx s) : ok (F_X11_feed a1 a2 a3 a4 a5 s) (fun τ => ok (F_X12_feed a1 a2 a3 a4 a5 τ.2) (fun υ => JSx υ.2 ∧ True)) :=
  P4x_of (F := F_X11_feed a1 a2 a3 a4 a5) (G := F_X12_feed a1 a2 a3 a4 a5) (E := fun τ υ => True) h (P4_feed h.1) (ok_mono (T_X11_feed h.1.1.1) (fun _ q => ⟨IM_rows q.1.2.1 h.1.1.2.1, q.1.2.1⟩)) (fun u hu hr => CRM_feed hu hr)
theorem CRM_end {a1 : Int32} {u : mG} (hI : IM u) (h : CRs u) : pk (F_X12_end a1 u) (fun υ => CRs υ.2) := CR_of (M := 309485009821345068724781056) (by decide +kernel) h (fun υ e => (ok_pk (T_X12_end hI) υ e).1.2.2) (K_X12_end kv0) (W_X12_end (M := 309485009821345068724781056) (z := u) sub_rfl KB_rfl)
theorem PX4_end {a1 : Int32} {s : mG} (h : JSx s) : ok (F_X11_end a1 s) (fun τ => ok (F_X12_end a1 τ.2) (fun υ => JSx υ.2 ∧ True)) :=
  P4x_of (F := F_X11_end a1) (G := F_X12_end a1) (E := fun τ υ => True) h (P4_end h.1) (ok_mono (T_X11_end h.1.1.1) (fun _ q => ⟨IM_rows q.1.2.1 h.1.1.2.1, q.1.2.1⟩)) (fun u hu hr => CRM_end hu hr)
theorem CRM_text {a1 : Int32} {u : mG} (hI : IM u) (h : CRs u) : pk (F_X12_text a1 u) (fun υ => CRs υ.2) := CR_of (M := 35590776129454682903349821440) (by decide +kernel) h (fun υ e => (ok_pk (T_X12_text hI) υ e).1.2.2) (K_X12_text kv0) (W_X12_text (M := 35590776129454682903349821440) (z := u) sub_rfl KB_rfl)
theorem PX4_text {a1 : Int32} {s : mG} (h : JSx s) : ok (F_X11_text a1 s) (fun τ => ok (F_X12_text a1 τ.2) (fun υ => JSx υ.2 ∧ τ.1 = υ.1)) :=
  P4x_of (F := F_X11_text a1) (G := F_X12_text a1) (E := fun τ υ => τ.1 = υ.1) h (P4_text h.1) (ok_mono (T_X11_text h.1.1.1) (fun _ q => ⟨IM_rows q.1.2.1 h.1.1.2.1, q.1.2.1⟩)) (fun u hu hr => CRM_text hu hr)
theorem A_X11_of {a1 : Int32} {a2 : Int32} {s : mG} (h : JS s) : ok (F_X11_of a1 a2 s) (fun τ => JS τ.2 ∧ ∀ j, 88 ≤ j → τ.2.1 j = s.1 j) := by
  refine ok_k (T_X11_of h.1.1) (W_X11_of (M := 20660353362554697809920) (z := s) sub_rfl KB_rfl) (fun τ q w => ?_)
  have w : KB 20660353362554697809920 s τ.2 := w
  exact ⟨⟨JC2 h.1 q (KB_rng w (a := 6) (n := 8) (by decide +kernel)) (KB_rng w (a := 19) (n := 16) (by decide +kernel)) (KB_rng w (a := 55) (n := 13) (by decide +kernel)), SIM_same h.2 (fun j hj => KB_rng w (a := 0) (n := 55) (by decide +kernel) j (by omega) (by omega)) (q.2.1 89 (by decide)) (q.2.1 90 (by decide)) (q.2.1 91 (by decide)) (congrFun (q.2.1 88 (by decide)) 3) (congrFun (q.2.1 88 (by decide)) 4)⟩, q.2.1⟩
theorem AX_X11_of {a1 : Int32} {a2 : Int32} {s : mG} (h : JSx s) : ok (F_X11_of a1 a2 s) (fun τ => JSx τ.2 ∧ ∀ j, 88 ≤ j → τ.2.1 j = s.1 j) := ok_mono (A_X11_of h.1) (fun _ q => ⟨⟨q.1, CRs_rows h.2 q.2⟩, q.2⟩)
theorem A_X12_of {a1 : Int32} {a2 : Int32} {s : mG} (h : JS s) : ok (F_X12_of a1 a2 s) (fun τ => JS τ.2) := by
  refine ok_kk (T_X12_of h.1.2.1) (QQ_X12_of kqw0) (W_X12_of (M := 237684487542793012780631851008) (z := s) sub_rfl KB_rfl) (fun τ q e w => ?_)
  have w : KB 237684487542793012780631851008 s τ.2 := w
  exact ⟨JM2 h.1 q.2.1 (fun j hj => q.2.2.1 j (by omega) (by omega)) e (w 95 (by decide +kernel)), SIM_same h.2 (fun j hj => q.2.2.1 j (by omega) (by omega)) (q.2.2.1 89 (by decide) (by decide)) (q.2.2.1 90 (by decide) (by decide)) (q.2.2.1 91 (by decide) (by decide)) q.2.2.2.1 q.2.2.2.2.1⟩
theorem AX_X12_of {a1 : Int32} {a2 : Int32} {s : mG} (h : JSx s) : ok (F_X12_of a1 a2 s) (fun τ => JSx τ.2) := ok_k (A_X12_of h.1) (ok_pk (T_X12_of h.1.1.2.1)) (fun _ q r => ⟨q, CRs_RT h.2 r.2.2⟩)
theorem A_X11_next {a1 : Int32} {s : mG} (h : JS s) : ok (F_X11_next a1 s) (fun τ => JS τ.2 ∧ ∀ j, 88 ≤ j → τ.2.1 j = s.1 j) := by
  refine ok_k (T_X11_next h.1.1) (W_X11_next (M := 20660353362554697809920) (z := s) sub_rfl KB_rfl) (fun τ q w => ?_)
  have w : KB 20660353362554697809920 s τ.2 := w
  exact ⟨⟨JC2 h.1 q (KB_rng w (a := 6) (n := 8) (by decide +kernel)) (KB_rng w (a := 19) (n := 16) (by decide +kernel)) (KB_rng w (a := 55) (n := 13) (by decide +kernel)), SIM_same h.2 (fun j hj => KB_rng w (a := 0) (n := 55) (by decide +kernel) j (by omega) (by omega)) (q.2.1 89 (by decide)) (q.2.1 90 (by decide)) (q.2.1 91 (by decide)) (congrFun (q.2.1 88 (by decide)) 3) (congrFun (q.2.1 88 (by decide)) 4)⟩, q.2.1⟩
theorem AX_X11_next {a1 : Int32} {s : mG} (h : JSx s) : ok (F_X11_next a1 s) (fun τ => JSx τ.2 ∧ ∀ j, 88 ≤ j → τ.2.1 j = s.1 j) := ok_mono (A_X11_next h.1) (fun _ q => ⟨⟨q.1, CRs_rows h.2 q.2⟩, q.2⟩)
theorem A_X12_next {a1 : Int32} {s : mG} (h : JS s) : ok (F_X12_next a1 s) (fun τ => JS τ.2) := by
  refine ok_kk (T_X12_next h.1.2.1) (QQ_X12_next kqw0) (W_X12_next (M := 237684487542793012780631851008) (z := s) sub_rfl KB_rfl) (fun τ q e w => ?_)
  have w : KB 237684487542793012780631851008 s τ.2 := w
  exact ⟨JM2 h.1 q.2.1 (fun j hj => q.2.2.1 j (by omega) (by omega)) e (w 95 (by decide +kernel)), SIM_same h.2 (fun j hj => q.2.2.1 j (by omega) (by omega)) (q.2.2.1 89 (by decide) (by decide)) (q.2.2.1 90 (by decide) (by decide)) (q.2.2.1 91 (by decide) (by decide)) q.2.2.2.1 q.2.2.2.2.1⟩
theorem AX_X12_next {a1 : Int32} {s : mG} (h : JSx s) : ok (F_X12_next a1 s) (fun τ => JSx τ.2) := ok_k (A_X12_next h.1) (ok_pk (T_X12_next h.1.1.2.1)) (fun _ q r => ⟨q, CRs_RT h.2 r.2.2⟩)
theorem A_X11_say {a1 : Int32} {a2 : Int32} {a3 : Int32} {s : mG} (h : JS s) : ok (F_X11_say a1 a2 a3 s) (fun τ => JS τ.2 ∧ ∀ j, 88 ≤ j → τ.2.1 j = s.1 j) := by
  refine ok_k (T_X11_say h.1.1) (W_X11_say (M := 20660353362554697809920) (z := s) sub_rfl KB_rfl) (fun τ q w => ?_)
  have w : KB 20660353362554697809920 s τ.2 := w
  exact ⟨⟨JC2 h.1 q (KB_rng w (a := 6) (n := 8) (by decide +kernel)) (KB_rng w (a := 19) (n := 16) (by decide +kernel)) (KB_rng w (a := 55) (n := 13) (by decide +kernel)), SIM_same h.2 (fun j hj => KB_rng w (a := 0) (n := 55) (by decide +kernel) j (by omega) (by omega)) (q.2.1 89 (by decide)) (q.2.1 90 (by decide)) (q.2.1 91 (by decide)) (congrFun (q.2.1 88 (by decide)) 3) (congrFun (q.2.1 88 (by decide)) 4)⟩, q.2.1⟩
theorem AX_X11_say {a1 : Int32} {a2 : Int32} {a3 : Int32} {s : mG} (h : JSx s) : ok (F_X11_say a1 a2 a3 s) (fun τ => JSx τ.2 ∧ ∀ j, 88 ≤ j → τ.2.1 j = s.1 j) := ok_mono (A_X11_say h.1) (fun _ q => ⟨⟨q.1, CRs_rows h.2 q.2⟩, q.2⟩)
theorem A_X12_say {a1 : Int32} {a2 : Int32} {a3 : Int32} {s : mG} (h : JS s) : ok (F_X12_say a1 a2 a3 s) (fun τ => JS τ.2) := by
  refine ok_kk (T_X12_say h.1.2.1) (QQ_X12_say kqw0) (W_X12_say (M := 237684487542793012780631851008) (z := s) sub_rfl KB_rfl) (fun τ q e w => ?_)
  have w : KB 237684487542793012780631851008 s τ.2 := w
  exact ⟨JM2 h.1 q.2.1 (fun j hj => q.2.2.1 j (by omega) (by omega)) e (w 95 (by decide +kernel)), SIM_same h.2 (fun j hj => q.2.2.1 j (by omega) (by omega)) (q.2.2.1 89 (by decide) (by decide)) (q.2.2.1 90 (by decide) (by decide)) (q.2.2.1 91 (by decide) (by decide)) q.2.2.2.1 q.2.2.2.2.1⟩
theorem AX_X12_say {a1 : Int32} {a2 : Int32} {a3 : Int32} {s : mG} (h : JSx s) : ok (F_X12_say a1 a2 a3 s) (fun τ => JSx τ.2) := ok_k (A_X12_say h.1) (ok_pk (T_X12_say h.1.1.2.1)) (fun _ q r => ⟨q, CRs_RT h.2 r.2.2⟩)
theorem A_X11_many {a1 : Int32} {s : mG} (h : JS s) : ok (F_X11_many a1 s) (fun τ => JS τ.2 ∧ ∀ j, 88 ≤ j → τ.2.1 j = s.1 j) := by
  refine ok_k (T_X11_many h.1.1) (W_X11_many (M := 133997148951426182938624) (z := s) sub_rfl KB_rfl) (fun τ q w => ?_)
  have w : KB 133997148951426182938624 s τ.2 := w
  exact ⟨⟨JC2 h.1 q (KB_rng w (a := 6) (n := 8) (by decide +kernel)) (KB_rng w (a := 19) (n := 16) (by decide +kernel)) (KB_rng w (a := 55) (n := 13) (by decide +kernel)), SIM_same h.2 (fun j hj => KB_rng w (a := 0) (n := 55) (by decide +kernel) j (by omega) (by omega)) (q.2.1 89 (by decide)) (q.2.1 90 (by decide)) (q.2.1 91 (by decide)) (congrFun (q.2.1 88 (by decide)) 3) (congrFun (q.2.1 88 (by decide)) 4)⟩, q.2.1⟩
theorem AX_X11_many {a1 : Int32} {s : mG} (h : JSx s) : ok (F_X11_many a1 s) (fun τ => JSx τ.2 ∧ ∀ j, 88 ≤ j → τ.2.1 j = s.1 j) := ok_mono (A_X11_many h.1) (fun _ q => ⟨⟨q.1, CRs_rows h.2 q.2⟩, q.2⟩)
theorem A_X12_many {a1 : Int32} {s : mG} (h : JS s) : ok (F_X12_many a1 s) (fun τ => JS τ.2) := by
  refine ok_kk (T_X12_many h.1.2.1) (QQ_X12_many kqw0) (W_X12_many (M := 237684487542793012780631851008) (z := s) sub_rfl KB_rfl) (fun τ q e w => ?_)
  have w : KB 237684487542793012780631851008 s τ.2 := w
  exact ⟨JM2 h.1 q.2.1 (fun j hj => q.2.2.1 j (by omega) (by omega)) e (w 95 (by decide +kernel)), SIM_same h.2 (fun j hj => q.2.2.1 j (by omega) (by omega)) (q.2.2.1 89 (by decide) (by decide)) (q.2.2.1 90 (by decide) (by decide)) (q.2.2.1 91 (by decide) (by decide)) q.2.2.2.1 q.2.2.2.2.1⟩
theorem AX_X12_many {a1 : Int32} {s : mG} (h : JSx s) : ok (F_X12_many a1 s) (fun τ => JSx τ.2) := ok_k (A_X12_many h.1) (ok_pk (T_X12_many h.1.1.2.1)) (fun _ q r => ⟨q, CRs_RT h.2 r.2.2⟩)
theorem A_X11_span {a1 : Int32} {a2 : Int32} {s : mG} (h : JS s) : ok (F_X11_span a1 a2 s) (fun τ => JS τ.2 ∧ ∀ j, 88 ≤ j → τ.2.1 j = s.1 j) := by
  refine ok_k (T_X11_span h.1.1) (W_X11_span (M := 133997148951426182938624) (z := s) sub_rfl KB_rfl) (fun τ q w => ?_)
  have w : KB 133997148951426182938624 s τ.2 := w
  exact ⟨⟨JC2 h.1 q (KB_rng w (a := 6) (n := 8) (by decide +kernel)) (KB_rng w (a := 19) (n := 16) (by decide +kernel)) (KB_rng w (a := 55) (n := 13) (by decide +kernel)), SIM_same h.2 (fun j hj => KB_rng w (a := 0) (n := 55) (by decide +kernel) j (by omega) (by omega)) (q.2.1 89 (by decide)) (q.2.1 90 (by decide)) (q.2.1 91 (by decide)) (congrFun (q.2.1 88 (by decide)) 3) (congrFun (q.2.1 88 (by decide)) 4)⟩, q.2.1⟩
theorem AX_X11_span {a1 : Int32} {a2 : Int32} {s : mG} (h : JSx s) : ok (F_X11_span a1 a2 s) (fun τ => JSx τ.2 ∧ ∀ j, 88 ≤ j → τ.2.1 j = s.1 j) := ok_mono (A_X11_span h.1) (fun _ q => ⟨⟨q.1, CRs_rows h.2 q.2⟩, q.2⟩)
theorem A_X12_span {a1 : Int32} {a2 : Int32} {s : mG} (h : JS s) : ok (F_X12_span a1 a2 s) (fun τ => JS τ.2) := by
  refine ok_kk (T_X12_span h.1.2.1) (QQ_X12_span kqw0) (W_X12_span (M := 237684487542793012780631851008) (z := s) sub_rfl KB_rfl) (fun τ q e w => ?_)
  have w : KB 237684487542793012780631851008 s τ.2 := w
  exact ⟨JM2 h.1 q.2.1 (fun j hj => q.2.2.1 j (by omega) (by omega)) e (w 95 (by decide +kernel)), SIM_same h.2 (fun j hj => q.2.2.1 j (by omega) (by omega)) (q.2.2.1 89 (by decide) (by decide)) (q.2.2.1 90 (by decide) (by decide)) (q.2.2.1 91 (by decide) (by decide)) q.2.2.2.1 q.2.2.2.2.1⟩
theorem AX_X12_span {a1 : Int32} {a2 : Int32} {s : mG} (h : JSx s) : ok (F_X12_span a1 a2 s) (fun τ => JSx τ.2) := ok_k (A_X12_span h.1) (ok_pk (T_X12_span h.1.1.2.1)) (fun _ q r => ⟨q, CRs_RT h.2 r.2.2⟩)
theorem A_X11_counted {a1 : Int32} {a2 : Int32} {s : mG} (h : JS s) : ok (F_X11_counted a1 a2 s) (fun τ => JS τ.2 ∧ ∀ j, 88 ≤ j → τ.2.1 j = s.1 j) := by
  refine ok_k (T_X11_counted h.1.1) (W_X11_counted (M := 133997148951426182938624) (z := s) sub_rfl KB_rfl) (fun τ q w => ?_)
  have w : KB 133997148951426182938624 s τ.2 := w
  exact ⟨⟨JC2 h.1 q (KB_rng w (a := 6) (n := 8) (by decide +kernel)) (KB_rng w (a := 19) (n := 16) (by decide +kernel)) (KB_rng w (a := 55) (n := 13) (by decide +kernel)), SIM_same h.2 (fun j hj => KB_rng w (a := 0) (n := 55) (by decide +kernel) j (by omega) (by omega)) (q.2.1 89 (by decide)) (q.2.1 90 (by decide)) (q.2.1 91 (by decide)) (congrFun (q.2.1 88 (by decide)) 3) (congrFun (q.2.1 88 (by decide)) 4)⟩, q.2.1⟩
theorem AX_X11_counted {a1 : Int32} {a2 : Int32} {s : mG} (h : JSx s) : ok (F_X11_counted a1 a2 s) (fun τ => JSx τ.2 ∧ ∀ j, 88 ≤ j → τ.2.1 j = s.1 j) := ok_mono (A_X11_counted h.1) (fun _ q => ⟨⟨q.1, CRs_rows h.2 q.2⟩, q.2⟩)
theorem A_X12_counted {a1 : Int32} {a2 : Int32} {s : mG} (h : JS s) : ok (F_X12_counted a1 a2 s) (fun τ => JS τ.2) := by
  refine ok_kk (T_X12_counted h.1.2.1) (QQ_X12_counted kqw0) (W_X12_counted (M := 237684487542793012780631851008) (z := s) sub_rfl KB_rfl) (fun τ q e w => ?_)
  have w : KB 237684487542793012780631851008 s τ.2 := w
  exact ⟨JM2 h.1 q.2.1 (fun j hj => q.2.2.1 j (by omega) (by omega)) e (w 95 (by decide +kernel)), SIM_same h.2 (fun j hj => q.2.2.1 j (by omega) (by omega)) (q.2.2.1 89 (by decide) (by decide)) (q.2.2.1 90 (by decide) (by decide)) (q.2.2.1 91 (by decide) (by decide)) q.2.2.2.1 q.2.2.2.2.1⟩
theorem AX_X12_counted {a1 : Int32} {a2 : Int32} {s : mG} (h : JSx s) : ok (F_X12_counted a1 a2 s) (fun τ => JSx τ.2) := ok_k (A_X12_counted h.1) (ok_pk (T_X12_counted h.1.1.2.1)) (fun _ q r => ⟨q, CRs_RT h.2 r.2.2⟩)
theorem A_X11_visit {a1 : Int32} {a2 : Int32} {s : mG} (h : JS s) : ok (F_X11_visit a1 a2 s) (fun τ => JS τ.2 ∧ ∀ j, 88 ≤ j → τ.2.1 j = s.1 j) := by
  refine ok_k (T_X11_visit h.1.1) (W_X11_visit (M := 20660353362554697809920) (z := s) sub_rfl KB_rfl) (fun τ q w => ?_)
  have w : KB 20660353362554697809920 s τ.2 := w
  exact ⟨⟨JC2 h.1 q (KB_rng w (a := 6) (n := 8) (by decide +kernel)) (KB_rng w (a := 19) (n := 16) (by decide +kernel)) (KB_rng w (a := 55) (n := 13) (by decide +kernel)), SIM_same h.2 (fun j hj => KB_rng w (a := 0) (n := 55) (by decide +kernel) j (by omega) (by omega)) (q.2.1 89 (by decide)) (q.2.1 90 (by decide)) (q.2.1 91 (by decide)) (congrFun (q.2.1 88 (by decide)) 3) (congrFun (q.2.1 88 (by decide)) 4)⟩, q.2.1⟩
theorem AX_X11_visit {a1 : Int32} {a2 : Int32} {s : mG} (h : JSx s) : ok (F_X11_visit a1 a2 s) (fun τ => JSx τ.2 ∧ ∀ j, 88 ≤ j → τ.2.1 j = s.1 j) := ok_mono (A_X11_visit h.1) (fun _ q => ⟨⟨q.1, CRs_rows h.2 q.2⟩, q.2⟩)
theorem A_X12_visit {a1 : Int32} {a2 : Int32} {s : mG} (h : JS s) : ok (F_X12_visit a1 a2 s) (fun τ => JS τ.2) := by
  refine ok_kk (T_X12_visit h.1.2.1) (QQ_X12_visit kqw0) (W_X12_visit (M := 237684487542793012780631851008) (z := s) sub_rfl KB_rfl) (fun τ q e w => ?_)
  have w : KB 237684487542793012780631851008 s τ.2 := w
  exact ⟨JM2 h.1 q.2.1 (fun j hj => q.2.2.1 j (by omega) (by omega)) e (w 95 (by decide +kernel)), SIM_same h.2 (fun j hj => q.2.2.1 j (by omega) (by omega)) (q.2.2.1 89 (by decide) (by decide)) (q.2.2.1 90 (by decide) (by decide)) (q.2.2.1 91 (by decide) (by decide)) q.2.2.2.1 q.2.2.2.2.1⟩
theorem AX_X12_visit {a1 : Int32} {a2 : Int32} {s : mG} (h : JSx s) : ok (F_X12_visit a1 a2 s) (fun τ => JSx τ.2) := ok_k (A_X12_visit h.1) (ok_pk (T_X12_visit h.1.1.2.1)) (fun _ q r => ⟨q, CRs_RT h.2 r.2.2⟩)
theorem A_X11_empty {a1 : Int32} {s : mG} (h : JS s) : ok (F_X11_empty a1 s) (fun τ => JS τ.2 ∧ ∀ j, 88 ≤ j → τ.2.1 j = s.1 j) := by
  refine ok_k (T_X11_empty h.1.1) (W_X11_empty (M := 96218217088469021229056) (z := s) sub_rfl KB_rfl) (fun τ q w => ?_)
  have w : KB 96218217088469021229056 s τ.2 := w
  exact ⟨⟨JC2 h.1 q (KB_rng w (a := 6) (n := 8) (by decide +kernel)) (KB_rng w (a := 19) (n := 16) (by decide +kernel)) (KB_rng w (a := 55) (n := 13) (by decide +kernel)), SIM_same h.2 (fun j hj => KB_rng w (a := 0) (n := 55) (by decide +kernel) j (by omega) (by omega)) (q.2.1 89 (by decide)) (q.2.1 90 (by decide)) (q.2.1 91 (by decide)) (congrFun (q.2.1 88 (by decide)) 3) (congrFun (q.2.1 88 (by decide)) 4)⟩, q.2.1⟩
theorem AX_X11_empty {a1 : Int32} {s : mG} (h : JSx s) : ok (F_X11_empty a1 s) (fun τ => JSx τ.2 ∧ ∀ j, 88 ≤ j → τ.2.1 j = s.1 j) := ok_mono (A_X11_empty h.1) (fun _ q => ⟨⟨q.1, CRs_rows h.2 q.2⟩, q.2⟩)
theorem A_X12_empty {a1 : Int32} {s : mG} (h : JS s) : ok (F_X12_empty a1 s) (fun τ => JS τ.2) := by
  refine ok_kk (T_X12_empty h.1.2.1) (QQ_X12_empty kqw0) (W_X12_empty (M := 237684487542793012780631851008) (z := s) sub_rfl KB_rfl) (fun τ q e w => ?_)
  have w : KB 237684487542793012780631851008 s τ.2 := w
  exact ⟨JM2 h.1 q.2.1 (fun j hj => q.2.2.1 j (by omega) (by omega)) e (w 95 (by decide +kernel)), SIM_same h.2 (fun j hj => q.2.2.1 j (by omega) (by omega)) (q.2.2.1 89 (by decide) (by decide)) (q.2.2.1 90 (by decide) (by decide)) (q.2.2.1 91 (by decide) (by decide)) q.2.2.2.1 q.2.2.2.2.1⟩
theorem AX_X12_empty {a1 : Int32} {s : mG} (h : JSx s) : ok (F_X12_empty a1 s) (fun τ => JSx τ.2) := ok_k (A_X12_empty h.1) (ok_pk (T_X12_empty h.1.1.2.1)) (fun _ q r => ⟨q, CRs_RT h.2 r.2.2⟩)
theorem A_X11_tagCost {a1 : Int32} {a2 : Int32} {a3 : Int32} {s : mG} (h : JS s) : ok (F_X11_tagCost a1 a2 a3 s) (fun τ => JS τ.2 ∧ ∀ j, 88 ≤ j → τ.2.1 j = s.1 j) := by
  refine ok_k (T_X11_tagCost h.1.1) (W_X11_tagCost (M := 1770887431076116955136) (z := s) sub_rfl KB_rfl) (fun τ q w => ?_)
  have w : KB 1770887431076116955136 s τ.2 := w
  exact ⟨⟨JC2 h.1 q (KB_rng w (a := 6) (n := 8) (by decide +kernel)) (KB_rng w (a := 19) (n := 16) (by decide +kernel)) (KB_rng w (a := 55) (n := 13) (by decide +kernel)), SIM_same h.2 (fun j hj => KB_rng w (a := 0) (n := 55) (by decide +kernel) j (by omega) (by omega)) (q.2.1 89 (by decide)) (q.2.1 90 (by decide)) (q.2.1 91 (by decide)) (congrFun (q.2.1 88 (by decide)) 3) (congrFun (q.2.1 88 (by decide)) 4)⟩, q.2.1⟩
theorem AX_X11_tagCost {a1 : Int32} {a2 : Int32} {a3 : Int32} {s : mG} (h : JSx s) : ok (F_X11_tagCost a1 a2 a3 s) (fun τ => JSx τ.2 ∧ ∀ j, 88 ≤ j → τ.2.1 j = s.1 j) := ok_mono (A_X11_tagCost h.1) (fun _ q => ⟨⟨q.1, CRs_rows h.2 q.2⟩, q.2⟩)
theorem A_X12_tagCost {a1 : Int32} {a2 : Int32} {a3 : Int32} {s : mG} (h : JS s) : ok (F_X12_tagCost a1 a2 a3 s) (fun τ => JS τ.2) := by
  refine ok_kk (T_X12_tagCost h.1.2.1) (QQ_X12_tagCost kqw0) (W_X12_tagCost (M := 237684487542793012780631851008) (z := s) sub_rfl KB_rfl) (fun τ q e w => ?_)
  have w : KB 237684487542793012780631851008 s τ.2 := w
  exact ⟨JM2 h.1 q.2.1 (fun j hj => q.2.2.1 j (by omega) (by omega)) e (w 95 (by decide +kernel)), SIM_same h.2 (fun j hj => q.2.2.1 j (by omega) (by omega)) (q.2.2.1 89 (by decide) (by decide)) (q.2.2.1 90 (by decide) (by decide)) (q.2.2.1 91 (by decide) (by decide)) q.2.2.2.1 q.2.2.2.2.1⟩
theorem AX_X12_tagCost {a1 : Int32} {a2 : Int32} {a3 : Int32} {s : mG} (h : JSx s) : ok (F_X12_tagCost a1 a2 a3 s) (fun τ => JSx τ.2) := ok_k (A_X12_tagCost h.1) (ok_pk (T_X12_tagCost h.1.1.2.1)) (fun _ q r => ⟨q, CRs_RT h.2 r.2.2⟩)
theorem CRM_caller {a1 : Int32} {a2 : Int32} {a3 : Int32} {u : mG} (hI : IM u) (h : CRs u) : pk (F_X12_caller a1 a2 a3 u) (fun υ => CRs υ.2) := CR_caller hI h
theorem AC_caller {a1 : Int32} {a2 : Int32} {a3 : Int32} {s : mG} (h : JL2 s) : ok (F_X11_caller a1 a2 a3 s) (fun τ => JL2 τ.2 ∧ ∀ j, 88 ≤ j → τ.2.1 j = s.1 j) := by
  refine ok_k (T_X11_caller h.1) (W_X11_caller (M := 196608) (z := s) sub_rfl KB_rfl) (fun τ q w => ?_)
  have w : KB 196608 s τ.2 := w
  exact ⟨JC2 h q (KB_rng w (a := 6) (n := 8) (by decide +kernel)) (KB_rng w (a := 19) (n := 16) (by decide +kernel)) (KB_rng w (a := 55) (n := 13) (by decide +kernel)), q.2.1⟩
theorem AM_caller {a1 : Int32} {a2 : Int32} {a3 : Int32} {s : mG} (h : JL2 s) : ok (F_X12_caller a1 a2 a3 s) (fun τ => JL2 τ.2 ∧ ∀ j, j < 88 → τ.2.1 j = s.1 j) := by
  refine ok_kk (T_X12_caller h.2.1) (QQ_X12_caller kqw0) (W_X12_caller (M := 618970019642690137449562112) (z := s) sub_rfl KB_rfl) (fun τ q e w => ?_)
  have w : KB 618970019642690137449562112 s τ.2 := w
  exact ⟨JM2 h q.1.1 q.1.2.1 e (w 95 (by decide +kernel)), q.1.2.1⟩
theorem P4_caller {a1 : Int32} {a2 : Int32} {a3 : Int32} {s : mG} (h : JS s) : ok (F_X11_caller a1 a2 a3 s) (fun τ => ok (F_X12_caller a1 a2 a3 τ.2) (fun υ => JS υ.2 ∧ τ.1 = υ.1)) :=
  P4_of (F := F_X11_caller a1 a2 a3) (G := F_X12_caller a1 a2 a3) h (AC_caller h.1) (fun u hu => AM_caller hu) (fun u hu => R_caller hu)
theorem PX4_caller {a1 : Int32} {a2 : Int32} {a3 : Int32} {s : mG} (h : JSx s) : ok (F_X11_caller a1 a2 a3 s) (fun τ => ok (F_X12_caller a1 a2 a3 τ.2) (fun υ => JSx υ.2 ∧ τ.1 = υ.1)) :=
  P4x_of (F := F_X11_caller a1 a2 a3) (G := F_X12_caller a1 a2 a3) (E := fun τ υ => τ.1 = υ.1) h (P4_caller h.1) (ok_mono (AC_caller h.1.1) (fun _ q => ⟨q.1.2.1, q.2⟩)) (fun u hu hr => CRM_caller hu hr)
theorem A_X11_said {a1 : Int32} {s : mG} (h : JS s) : ok (F_X11_said a1 s) (fun τ => JS τ.2 ∧ ∀ j, 88 ≤ j → τ.2.1 j = s.1 j) := by
  refine ok_k (T_X11_said h.1.1) (W_X11_said (M := 20660353362554697809920) (z := s) sub_rfl KB_rfl) (fun τ q w => ?_)
  have w : KB 20660353362554697809920 s τ.2 := w
  exact ⟨⟨JC2 h.1 q (KB_rng w (a := 6) (n := 8) (by decide +kernel)) (KB_rng w (a := 19) (n := 16) (by decide +kernel)) (KB_rng w (a := 55) (n := 13) (by decide +kernel)), SIM_same h.2 (fun j hj => KB_rng w (a := 0) (n := 55) (by decide +kernel) j (by omega) (by omega)) (q.2.1 89 (by decide)) (q.2.1 90 (by decide)) (q.2.1 91 (by decide)) (congrFun (q.2.1 88 (by decide)) 3) (congrFun (q.2.1 88 (by decide)) 4)⟩, q.2.1⟩
theorem AX_X11_said {a1 : Int32} {s : mG} (h : JSx s) : ok (F_X11_said a1 s) (fun τ => JSx τ.2 ∧ ∀ j, 88 ≤ j → τ.2.1 j = s.1 j) := ok_mono (A_X11_said h.1) (fun _ q => ⟨⟨q.1, CRs_rows h.2 q.2⟩, q.2⟩)
theorem A_X12_said {a1 : Int32} {s : mG} (h : JS s) : ok (F_X12_said a1 s) (fun τ => JS τ.2) := by
  refine ok_kk (T_X12_said h.1.2.1) (QQ_X12_said kqw0) (W_X12_said (M := 237684487542793012780631851008) (z := s) sub_rfl KB_rfl) (fun τ q e w => ?_)
  have w : KB 237684487542793012780631851008 s τ.2 := w
  exact ⟨JM2 h.1 q.2.1 (fun j hj => q.2.2.1 j (by omega) (by omega)) e (w 95 (by decide +kernel)), SIM_same h.2 (fun j hj => q.2.2.1 j (by omega) (by omega)) (q.2.2.1 89 (by decide) (by decide)) (q.2.2.1 90 (by decide) (by decide)) (q.2.2.1 91 (by decide) (by decide)) q.2.2.2.1 q.2.2.2.2.1⟩
theorem AX_X12_said {a1 : Int32} {s : mG} (h : JSx s) : ok (F_X12_said a1 s) (fun τ => JSx τ.2) := ok_k (A_X12_said h.1) (ok_pk (T_X12_said h.1.1.2.1)) (fun _ q r => ⟨q, CRs_RT h.2 r.2.2⟩)
theorem A_X11_looksAt {a1 : Int32} {a2 : Int32} {s : mG} (h : JS s) : ok (F_X11_looksAt a1 a2 s) (fun τ => JS τ.2 ∧ ∀ j, 88 ≤ j → τ.2.1 j = s.1 j) := by
  refine ok_k (T_X11_looksAt h.1.1) (W_X11_looksAt (M := 20660353362554697809920) (z := s) sub_rfl KB_rfl) (fun τ q w => ?_)
  have w : KB 20660353362554697809920 s τ.2 := w
  exact ⟨⟨JC2 h.1 q (KB_rng w (a := 6) (n := 8) (by decide +kernel)) (KB_rng w (a := 19) (n := 16) (by decide +kernel)) (KB_rng w (a := 55) (n := 13) (by decide +kernel)), SIM_same h.2 (fun j hj => KB_rng w (a := 0) (n := 55) (by decide +kernel) j (by omega) (by omega)) (q.2.1 89 (by decide)) (q.2.1 90 (by decide)) (q.2.1 91 (by decide)) (congrFun (q.2.1 88 (by decide)) 3) (congrFun (q.2.1 88 (by decide)) 4)⟩, q.2.1⟩
theorem AX_X11_looksAt {a1 : Int32} {a2 : Int32} {s : mG} (h : JSx s) : ok (F_X11_looksAt a1 a2 s) (fun τ => JSx τ.2 ∧ ∀ j, 88 ≤ j → τ.2.1 j = s.1 j) := ok_mono (A_X11_looksAt h.1) (fun _ q => ⟨⟨q.1, CRs_rows h.2 q.2⟩, q.2⟩)
theorem A_X12_looksAt {a1 : Int32} {a2 : Int32} {s : mG} (h : JS s) : ok (F_X12_looksAt a1 a2 s) (fun τ => JS τ.2) := by
  refine ok_kk (T_X12_looksAt h.1.2.1) (QQ_X12_looksAt kqw0) (W_X12_looksAt (M := 237684487542793012780631851008) (z := s) sub_rfl KB_rfl) (fun τ q e w => ?_)
  have w : KB 237684487542793012780631851008 s τ.2 := w
  exact ⟨JM2 h.1 q.2.1 (fun j hj => q.2.2.1 j (by omega) (by omega)) e (w 95 (by decide +kernel)), SIM_same h.2 (fun j hj => q.2.2.1 j (by omega) (by omega)) (q.2.2.1 89 (by decide) (by decide)) (q.2.2.1 90 (by decide) (by decide)) (q.2.2.1 91 (by decide) (by decide)) q.2.2.2.1 q.2.2.2.2.1⟩
theorem AX_X12_looksAt {a1 : Int32} {a2 : Int32} {s : mG} (h : JSx s) : ok (F_X12_looksAt a1 a2 s) (fun τ => JSx τ.2) := ok_k (A_X12_looksAt h.1) (ok_pk (T_X12_looksAt h.1.1.2.1)) (fun _ q r => ⟨q, CRs_RT h.2 r.2.2⟩)
theorem A_X11_pair {a1 : Int32} {s : mG} (h : JS s) : ok (F_X11_pair a1 s) (fun τ => JS τ.2 ∧ ∀ j, 88 ≤ j → τ.2.1 j = s.1 j) := by
  refine ok_k (T_X11_pair h.1.1) (W_X11_pair (M := 96218217088469021229056) (z := s) sub_rfl KB_rfl) (fun τ q w => ?_)
  have w : KB 96218217088469021229056 s τ.2 := w
  exact ⟨⟨JC2 h.1 q (KB_rng w (a := 6) (n := 8) (by decide +kernel)) (KB_rng w (a := 19) (n := 16) (by decide +kernel)) (KB_rng w (a := 55) (n := 13) (by decide +kernel)), SIM_same h.2 (fun j hj => KB_rng w (a := 0) (n := 55) (by decide +kernel) j (by omega) (by omega)) (q.2.1 89 (by decide)) (q.2.1 90 (by decide)) (q.2.1 91 (by decide)) (congrFun (q.2.1 88 (by decide)) 3) (congrFun (q.2.1 88 (by decide)) 4)⟩, q.2.1⟩
theorem AX_X11_pair {a1 : Int32} {s : mG} (h : JSx s) : ok (F_X11_pair a1 s) (fun τ => JSx τ.2 ∧ ∀ j, 88 ≤ j → τ.2.1 j = s.1 j) := ok_mono (A_X11_pair h.1) (fun _ q => ⟨⟨q.1, CRs_rows h.2 q.2⟩, q.2⟩)
theorem A_X12_pair {a1 : Int32} {s : mG} (h : JS s) : ok (F_X12_pair a1 s) (fun τ => JS τ.2) := by
  refine ok_kk (T_X12_pair h.1.2.1) (QQ_X12_pair kqw0) (W_X12_pair (M := 237684487542793012780631851008) (z := s) sub_rfl KB_rfl) (fun τ q e w => ?_)
  have w : KB 237684487542793012780631851008 s τ.2 := w
  exact ⟨JM2 h.1 q.2.1 (fun j hj => q.2.2.1 j (by omega) (by omega)) e (w 95 (by decide +kernel)), SIM_same h.2 (fun j hj => q.2.2.1 j (by omega) (by omega)) (q.2.2.1 89 (by decide) (by decide)) (q.2.2.1 90 (by decide) (by decide)) (q.2.2.1 91 (by decide) (by decide)) q.2.2.2.1 q.2.2.2.2.1⟩
theorem AX_X12_pair {a1 : Int32} {s : mG} (h : JSx s) : ok (F_X12_pair a1 s) (fun τ => JSx τ.2) := ok_k (A_X12_pair h.1) (ok_pk (T_X12_pair h.1.1.2.1)) (fun _ q r => ⟨q, CRs_RT h.2 r.2.2⟩)
theorem A_X11_busy {a1 : Int32} {s : mG} (h : JS s) : ok (F_X11_busy a1 s) (fun τ => JS τ.2 ∧ ∀ j, 88 ≤ j → τ.2.1 j = s.1 j) := by
  refine ok_k (T_X11_busy h.1.1) (W_X11_busy (M := 1770887431076116955136) (z := s) sub_rfl KB_rfl) (fun τ q w => ?_)
  have w : KB 1770887431076116955136 s τ.2 := w
  exact ⟨⟨JC2 h.1 q (KB_rng w (a := 6) (n := 8) (by decide +kernel)) (KB_rng w (a := 19) (n := 16) (by decide +kernel)) (KB_rng w (a := 55) (n := 13) (by decide +kernel)), SIM_same h.2 (fun j hj => KB_rng w (a := 0) (n := 55) (by decide +kernel) j (by omega) (by omega)) (q.2.1 89 (by decide)) (q.2.1 90 (by decide)) (q.2.1 91 (by decide)) (congrFun (q.2.1 88 (by decide)) 3) (congrFun (q.2.1 88 (by decide)) 4)⟩, q.2.1⟩
theorem AX_X11_busy {a1 : Int32} {s : mG} (h : JSx s) : ok (F_X11_busy a1 s) (fun τ => JSx τ.2 ∧ ∀ j, 88 ≤ j → τ.2.1 j = s.1 j) := ok_mono (A_X11_busy h.1) (fun _ q => ⟨⟨q.1, CRs_rows h.2 q.2⟩, q.2⟩)
theorem A_X12_busy {a1 : Int32} {s : mG} (h : JS s) : ok (F_X12_busy a1 s) (fun τ => JS τ.2) := by
  refine ok_kk (T_X12_busy h.1.2.1) (QQ_X12_busy kqw0) (W_X12_busy (M := 237684487542793012780631851008) (z := s) sub_rfl KB_rfl) (fun τ q e w => ?_)
  have w : KB 237684487542793012780631851008 s τ.2 := w
  exact ⟨JM2 h.1 q.2.1 (fun j hj => q.2.2.1 j (by omega) (by omega)) e (w 95 (by decide +kernel)), SIM_same h.2 (fun j hj => q.2.2.1 j (by omega) (by omega)) (q.2.2.1 89 (by decide) (by decide)) (q.2.2.1 90 (by decide) (by decide)) (q.2.2.1 91 (by decide) (by decide)) q.2.2.2.1 q.2.2.2.2.1⟩
theorem AX_X12_busy {a1 : Int32} {s : mG} (h : JSx s) : ok (F_X12_busy a1 s) (fun τ => JSx τ.2) := ok_k (A_X12_busy h.1) (ok_pk (T_X12_busy h.1.1.2.1)) (fun _ q r => ⟨q, CRs_RT h.2 r.2.2⟩)
theorem A_X11_expect  {s : mG} (h : JS s) : ok (F_X11_expect s) (fun τ => JS τ.2 ∧ ∀ j, 88 ≤ j → τ.2.1 j = s.1 j) := by
  refine ok_k (T_X11_expect h.1.1) (W_X11_expect (M := 1770887431076116955136) (z := s) sub_rfl KB_rfl) (fun τ q w => ?_)
  have w : KB 1770887431076116955136 s τ.2 := w
  exact ⟨⟨JC2 h.1 q (KB_rng w (a := 6) (n := 8) (by decide +kernel)) (KB_rng w (a := 19) (n := 16) (by decide +kernel)) (KB_rng w (a := 55) (n := 13) (by decide +kernel)), SIM_same h.2 (fun j hj => KB_rng w (a := 0) (n := 55) (by decide +kernel) j (by omega) (by omega)) (q.2.1 89 (by decide)) (q.2.1 90 (by decide)) (q.2.1 91 (by decide)) (congrFun (q.2.1 88 (by decide)) 3) (congrFun (q.2.1 88 (by decide)) 4)⟩, q.2.1⟩
theorem AX_X11_expect  {s : mG} (h : JSx s) : ok (F_X11_expect s) (fun τ => JSx τ.2 ∧ ∀ j, 88 ≤ j → τ.2.1 j = s.1 j) := ok_mono (A_X11_expect h.1) (fun _ q => ⟨⟨q.1, CRs_rows h.2 q.2⟩, q.2⟩)
theorem A_X12_expect  {s : mG} (h : JS s) : ok (F_X12_expect s) (fun τ => JS τ.2) := by
  refine ok_kk (T_X12_expect h.1.2.1) (QQ_X12_expect kqw0) (W_X12_expect (M := 237684487542793012780631851008) (z := s) sub_rfl KB_rfl) (fun τ q e w => ?_)
  have w : KB 237684487542793012780631851008 s τ.2 := w
  exact ⟨JM2 h.1 q.2.1 (fun j hj => q.2.2.1 j (by omega) (by omega)) e (w 95 (by decide +kernel)), SIM_same h.2 (fun j hj => q.2.2.1 j (by omega) (by omega)) (q.2.2.1 89 (by decide) (by decide)) (q.2.2.1 90 (by decide) (by decide)) (q.2.2.1 91 (by decide) (by decide)) q.2.2.2.1 q.2.2.2.2.1⟩
theorem AX_X12_expect  {s : mG} (h : JSx s) : ok (F_X12_expect s) (fun τ => JSx τ.2) := ok_k (A_X12_expect h.1) (ok_pk (T_X12_expect h.1.1.2.1)) (fun _ q r => ⟨q, CRs_RT h.2 r.2.2⟩)
theorem A_X11_lack {a1 : Int32} {s : mG} (h : JS s) : ok (F_X11_lack a1 s) (fun τ => JS τ.2 ∧ ∀ j, 88 ≤ j → τ.2.1 j = s.1 j) := by
  refine ok_k (T_X11_lack h.1.1) (W_X11_lack (M := 96218217088469021229056) (z := s) sub_rfl KB_rfl) (fun τ q w => ?_)
  have w : KB 96218217088469021229056 s τ.2 := w
  exact ⟨⟨JC2 h.1 q (KB_rng w (a := 6) (n := 8) (by decide +kernel)) (KB_rng w (a := 19) (n := 16) (by decide +kernel)) (KB_rng w (a := 55) (n := 13) (by decide +kernel)), SIM_same h.2 (fun j hj => KB_rng w (a := 0) (n := 55) (by decide +kernel) j (by omega) (by omega)) (q.2.1 89 (by decide)) (q.2.1 90 (by decide)) (q.2.1 91 (by decide)) (congrFun (q.2.1 88 (by decide)) 3) (congrFun (q.2.1 88 (by decide)) 4)⟩, q.2.1⟩
theorem AX_X11_lack {a1 : Int32} {s : mG} (h : JSx s) : ok (F_X11_lack a1 s) (fun τ => JSx τ.2 ∧ ∀ j, 88 ≤ j → τ.2.1 j = s.1 j) := ok_mono (A_X11_lack h.1) (fun _ q => ⟨⟨q.1, CRs_rows h.2 q.2⟩, q.2⟩)
theorem A_X12_lack {a1 : Int32} {s : mG} (h : JS s) : ok (F_X12_lack a1 s) (fun τ => JS τ.2) := by
  refine ok_kk (T_X12_lack h.1.2.1) (QQ_X12_lack kqw0) (W_X12_lack (M := 237684487542793012780631851008) (z := s) sub_rfl KB_rfl) (fun τ q e w => ?_)
  have w : KB 237684487542793012780631851008 s τ.2 := w
  exact ⟨JM2 h.1 q.2.1 (fun j hj => q.2.2.1 j (by omega) (by omega)) e (w 95 (by decide +kernel)), SIM_same h.2 (fun j hj => q.2.2.1 j (by omega) (by omega)) (q.2.2.1 89 (by decide) (by decide)) (q.2.2.1 90 (by decide) (by decide)) (q.2.2.1 91 (by decide) (by decide)) q.2.2.2.1 q.2.2.2.2.1⟩
theorem AX_X12_lack {a1 : Int32} {s : mG} (h : JSx s) : ok (F_X12_lack a1 s) (fun τ => JSx τ.2) := ok_k (A_X12_lack h.1) (ok_pk (T_X12_lack h.1.1.2.1)) (fun _ q r => ⟨q, CRs_RT h.2 r.2.2⟩)
theorem A_X11_knocks {a1 : Int32} {s : mG} (h : JS s) : ok (F_X11_knocks a1 s) (fun τ => JS τ.2 ∧ ∀ j, 88 ≤ j → τ.2.1 j = s.1 j) := by
  refine ok_k (T_X11_knocks h.1.1) (W_X11_knocks (M := 19363473467196621493108736) (z := s) sub_rfl KB_rfl) (fun τ q w => ?_)
  have w : KB 19363473467196621493108736 s τ.2 := w
  exact ⟨⟨JC2 h.1 q (KB_rng w (a := 6) (n := 8) (by decide +kernel)) (KB_rng w (a := 19) (n := 16) (by decide +kernel)) (KB_rng w (a := 55) (n := 13) (by decide +kernel)), SIM_same h.2 (fun j hj => KB_rng w (a := 0) (n := 55) (by decide +kernel) j (by omega) (by omega)) (q.2.1 89 (by decide)) (q.2.1 90 (by decide)) (q.2.1 91 (by decide)) (congrFun (q.2.1 88 (by decide)) 3) (congrFun (q.2.1 88 (by decide)) 4)⟩, q.2.1⟩
theorem AX_X11_knocks {a1 : Int32} {s : mG} (h : JSx s) : ok (F_X11_knocks a1 s) (fun τ => JSx τ.2 ∧ ∀ j, 88 ≤ j → τ.2.1 j = s.1 j) := ok_mono (A_X11_knocks h.1) (fun _ q => ⟨⟨q.1, CRs_rows h.2 q.2⟩, q.2⟩)
theorem A_X12_knocks {a1 : Int32} {s : mG} (h : JS s) : ok (F_X12_knocks a1 s) (fun τ => JS τ.2) := by
  refine ok_kk (T_X12_knocks h.1.2.1) (QQ_X12_knocks kqw0) (W_X12_knocks (M := 237684487542793012780631851008) (z := s) sub_rfl KB_rfl) (fun τ q e w => ?_)
  have w : KB 237684487542793012780631851008 s τ.2 := w
  exact ⟨JM2 h.1 q.2.1 (fun j hj => q.2.2.1 j (by omega) (by omega)) e (w 95 (by decide +kernel)), SIM_same h.2 (fun j hj => q.2.2.1 j (by omega) (by omega)) (q.2.2.1 89 (by decide) (by decide)) (q.2.2.1 90 (by decide) (by decide)) (q.2.2.1 91 (by decide) (by decide)) q.2.2.2.1 q.2.2.2.2.1⟩
theorem AX_X12_knocks {a1 : Int32} {s : mG} (h : JSx s) : ok (F_X12_knocks a1 s) (fun τ => JSx τ.2) := ok_k (A_X12_knocks h.1) (ok_pk (T_X12_knocks h.1.1.2.1)) (fun _ q r => ⟨q, CRs_RT h.2 r.2.2⟩)
theorem PX5_knocks {a1 : Int32} {s : mG} (h : JSx s) : ok (F_X11_knocks a1 s) (fun τ => ok (F_X12_knocks a1 τ.2) (fun υ => JSx υ.2 ∧ τ.1 = υ.1)) :=
  P5x_of (F := F_X11_knocks a1) (G := F_X12_knocks a1) h (AX_X11_knocks h) (fun u hu => AX_X12_knocks hu) (fun u hI hC hu => R_knocks hI hC hu)
theorem A_X11_tag {a1 : Int32} {a2 : Int32} {s : mG} (h : JS s) : ok (F_X11_tag a1 a2 s) (fun τ => JS τ.2 ∧ ∀ j, 88 ≤ j → τ.2.1 j = s.1 j) := by
  refine ok_k (T_X11_tag h.1.1) (W_X11_tag (M := 1770887431076116955136) (z := s) sub_rfl KB_rfl) (fun τ q w => ?_)
  have w : KB 1770887431076116955136 s τ.2 := w
  exact ⟨⟨JC2 h.1 q (KB_rng w (a := 6) (n := 8) (by decide +kernel)) (KB_rng w (a := 19) (n := 16) (by decide +kernel)) (KB_rng w (a := 55) (n := 13) (by decide +kernel)), SIM_same h.2 (fun j hj => KB_rng w (a := 0) (n := 55) (by decide +kernel) j (by omega) (by omega)) (q.2.1 89 (by decide)) (q.2.1 90 (by decide)) (q.2.1 91 (by decide)) (congrFun (q.2.1 88 (by decide)) 3) (congrFun (q.2.1 88 (by decide)) 4)⟩, q.2.1⟩
theorem AX_X11_tag {a1 : Int32} {a2 : Int32} {s : mG} (h : JSx s) : ok (F_X11_tag a1 a2 s) (fun τ => JSx τ.2 ∧ ∀ j, 88 ≤ j → τ.2.1 j = s.1 j) := ok_mono (A_X11_tag h.1) (fun _ q => ⟨⟨q.1, CRs_rows h.2 q.2⟩, q.2⟩)
theorem A_X12_tag {a1 : Int32} {a2 : Int32} {s : mG} (h : JS s) : ok (F_X12_tag a1 a2 s) (fun τ => JS τ.2) := by
  refine ok_kk (T_X12_tag h.1.2.1) (QQ_X12_tag kqw0) (W_X12_tag (M := 237684487542793012780631851008) (z := s) sub_rfl KB_rfl) (fun τ q e w => ?_)
  have w : KB 237684487542793012780631851008 s τ.2 := w
  exact ⟨JM2 h.1 q.2.1 (fun j hj => q.2.2.1 j (by omega) (by omega)) e (w 95 (by decide +kernel)), SIM_same h.2 (fun j hj => q.2.2.1 j (by omega) (by omega)) (q.2.2.1 89 (by decide) (by decide)) (q.2.2.1 90 (by decide) (by decide)) (q.2.2.1 91 (by decide) (by decide)) q.2.2.2.1 q.2.2.2.2.1⟩
theorem AX_X12_tag {a1 : Int32} {a2 : Int32} {s : mG} (h : JSx s) : ok (F_X12_tag a1 a2 s) (fun τ => JSx τ.2) := ok_k (A_X12_tag h.1) (ok_pk (T_X12_tag h.1.1.2.1)) (fun _ q r => ⟨q, CRs_RT h.2 r.2.2⟩)
theorem CRM_room {a1 : Int32} {a2 : Int32} {a3 : Int32} {a4 : Int32} {u : mG} (hI : IM u) (h : CRs u) : pk (F_X12_room a1 a2 a3 a4 u) (fun υ => CRs υ.2) := CR_room hI h
theorem AC_room {a1 : Int32} {a2 : Int32} {a3 : Int32} {a4 : Int32} {s : mG} (h : JL2 s) : ok (F_X11_room a1 a2 a3 a4 s) (fun τ => JL2 τ.2 ∧ ∀ j, 88 ≤ j → τ.2.1 j = s.1 j) := by
  refine ok_k (T_X11_room h.1) (W_X11_room (M := 49152) (z := s) sub_rfl KB_rfl) (fun τ q w => ?_)
  have w : KB 49152 s τ.2 := w
  exact ⟨JC2 h q (KB_rng w (a := 6) (n := 8) (by decide +kernel)) (KB_rng w (a := 19) (n := 16) (by decide +kernel)) (KB_rng w (a := 55) (n := 13) (by decide +kernel)), q.2.1⟩
theorem AM_room {a1 : Int32} {a2 : Int32} {a3 : Int32} {a4 : Int32} {s : mG} (h : JL2 s) : ok (F_X12_room a1 a2 a3 a4 s) (fun τ => JL2 τ.2 ∧ ∀ j, j < 88 → τ.2.1 j = s.1 j) := by
  refine ok_kk (T_X12_room h.2.1) (QQ_X12_room kqw0) (W_X12_room (M := 618970019642690137449562112) (z := s) sub_rfl KB_rfl) (fun τ q e w => ?_)
  have w : KB 618970019642690137449562112 s τ.2 := w
  exact ⟨JM2 h q.1.1 q.1.2.1 e (w 95 (by decide +kernel)), q.1.2.1⟩
theorem P4_room {a1 : Int32} {a2 : Int32} {a3 : Int32} {a4 : Int32} {s : mG} (h : JS s) : ok (F_X11_room a1 a2 a3 a4 s) (fun τ => ok (F_X12_room a1 a2 a3 a4 τ.2) (fun υ => JS υ.2 ∧ τ.1 = υ.1)) :=
  P4_of (F := F_X11_room a1 a2 a3 a4) (G := F_X12_room a1 a2 a3 a4) h (AC_room h.1) (fun u hu => AM_room hu) (fun u hu => R_room hu)
theorem PX4_room {a1 : Int32} {a2 : Int32} {a3 : Int32} {a4 : Int32} {s : mG} (h : JSx s) : ok (F_X11_room a1 a2 a3 a4 s) (fun τ => ok (F_X12_room a1 a2 a3 a4 τ.2) (fun υ => JSx υ.2 ∧ τ.1 = υ.1)) :=
  P4x_of (F := F_X11_room a1 a2 a3 a4) (G := F_X12_room a1 a2 a3 a4) (E := fun τ υ => τ.1 = υ.1) h (P4_room h.1) (ok_mono (AC_room h.1.1) (fun _ q => ⟨q.1.2.1, q.2⟩)) (fun u hu hr => CRM_room hu hr)
theorem A_X11_fire {a1 : Int32} {a2 : Int32} {s : mG} (h : JS s) : ok (F_X11_fire a1 a2 s) (fun τ => JS τ.2 ∧ ∀ j, 88 ≤ j → τ.2.1 j = s.1 j) := by
  refine ok_k (T_X11_fire h.1.1) (W_X11_fire (M := 280491450503956523229642752) (z := s) sub_rfl KB_rfl) (fun τ q w => ?_)
  have w : KB 280491450503956523229642752 s τ.2 := w
  exact ⟨⟨JC2 h.1 q (KB_rng w (a := 6) (n := 8) (by decide +kernel)) (KB_rng w (a := 19) (n := 16) (by decide +kernel)) (KB_rng w (a := 55) (n := 13) (by decide +kernel)), SIM_same h.2 (fun j hj => KB_rng w (a := 0) (n := 55) (by decide +kernel) j (by omega) (by omega)) (q.2.1 89 (by decide)) (q.2.1 90 (by decide)) (q.2.1 91 (by decide)) (congrFun (q.2.1 88 (by decide)) 3) (congrFun (q.2.1 88 (by decide)) 4)⟩, q.2.1⟩
theorem AX_X11_fire {a1 : Int32} {a2 : Int32} {s : mG} (h : JSx s) : ok (F_X11_fire a1 a2 s) (fun τ => JSx τ.2 ∧ ∀ j, 88 ≤ j → τ.2.1 j = s.1 j) := ok_mono (A_X11_fire h.1) (fun _ q => ⟨⟨q.1, CRs_rows h.2 q.2⟩, q.2⟩)
theorem A_X12_fire {a1 : Int32} {a2 : Int32} {s : mG} (h : JS s) : ok (F_X12_fire a1 a2 s) (fun τ => JS τ.2) := by
  refine ok_kk (T_X12_fire h.1.2.1) (QQ_X12_fire kqw0) (W_X12_fire (M := 7843897573921990766829575864320) (z := s) sub_rfl KB_rfl) (fun τ q e w => ?_)
  have w : KB 7843897573921990766829575864320 s τ.2 := w
  exact ⟨JM2 h.1 q.2.1 (fun j hj => q.2.2.1 j (by omega) (by omega)) e (w 95 (by decide +kernel)), SIM_same h.2 (fun j hj => q.2.2.1 j (by omega) (by omega)) (q.2.2.1 89 (by decide) (by decide)) (q.2.2.1 90 (by decide) (by decide)) (q.2.2.1 91 (by decide) (by decide)) q.2.2.2.1 q.2.2.2.2.1⟩
theorem AX_X12_fire {a1 : Int32} {a2 : Int32} {s : mG} (h : JSx s) : ok (F_X12_fire a1 a2 s) (fun τ => JSx τ.2) := ok_k (A_X12_fire h.1) (ok_pk (T_X12_fire h.1.1.2.1)) (fun _ q r => ⟨q, CRs_RT h.2 r.2.2⟩)
theorem A_X11_stands {a1 : Int32} {a2 : Int32} {s : mG} (h : JS s) : ok (F_X11_stands a1 a2 s) (fun τ => JS τ.2 ∧ ∀ j, 88 ≤ j → τ.2.1 j = s.1 j) := by
  refine ok_k (T_X11_stands h.1.1) (W_X11_stands (M := 4535242710985935522103296) (z := s) sub_rfl KB_rfl) (fun τ q w => ?_)
  have w : KB 4535242710985935522103296 s τ.2 := w
  exact ⟨⟨JC2 h.1 q (KB_rng w (a := 6) (n := 8) (by decide +kernel)) (KB_rng w (a := 19) (n := 16) (by decide +kernel)) (KB_rng w (a := 55) (n := 13) (by decide +kernel)), SIM_same h.2 (fun j hj => KB_rng w (a := 0) (n := 55) (by decide +kernel) j (by omega) (by omega)) (q.2.1 89 (by decide)) (q.2.1 90 (by decide)) (q.2.1 91 (by decide)) (congrFun (q.2.1 88 (by decide)) 3) (congrFun (q.2.1 88 (by decide)) 4)⟩, q.2.1⟩
theorem AX_X11_stands {a1 : Int32} {a2 : Int32} {s : mG} (h : JSx s) : ok (F_X11_stands a1 a2 s) (fun τ => JSx τ.2 ∧ ∀ j, 88 ≤ j → τ.2.1 j = s.1 j) := ok_mono (A_X11_stands h.1) (fun _ q => ⟨⟨q.1, CRs_rows h.2 q.2⟩, q.2⟩)
theorem A_X12_stands {a1 : Int32} {a2 : Int32} {s : mG} (h : JS s) : ok (F_X12_stands a1 a2 s) (fun τ => JS τ.2) := by
  refine ok_kk (T_X12_stands h.1.2.1) (QQ_X12_stands kqw0) (W_X12_stands (M := 30661298893020298648701508780032) (z := s) sub_rfl KB_rfl) (fun τ q e w => ?_)
  have w : KB 30661298893020298648701508780032 s τ.2 := w
  exact ⟨JM2 h.1 q.2.1 (fun j hj => q.2.2.1 j (by omega) (by omega)) e (w 95 (by decide +kernel)), SIM_same h.2 (fun j hj => q.2.2.1 j (by omega) (by omega)) (q.2.2.1 89 (by decide) (by decide)) (q.2.2.1 90 (by decide) (by decide)) (q.2.2.1 91 (by decide) (by decide)) q.2.2.2.1 q.2.2.2.2.1⟩
theorem AX_X12_stands {a1 : Int32} {a2 : Int32} {s : mG} (h : JSx s) : ok (F_X12_stands a1 a2 s) (fun τ => JSx τ.2) := ok_k (A_X12_stands h.1) (ok_pk (T_X12_stands h.1.1.2.1)) (fun _ q r => ⟨q, CRs_RT h.2 r.2.2⟩)
theorem A_X11_carries  {s : mG} (h : JS s) : ok (F_X11_carries s) (fun τ => JS τ.2 ∧ ∀ j, 88 ≤ j → τ.2.1 j = s.1 j) := by
  refine ok_k (T_X11_carries h.1.1) (W_X11_carries (M := 1770887431076116955136) (z := s) sub_rfl KB_rfl) (fun τ q w => ?_)
  have w : KB 1770887431076116955136 s τ.2 := w
  exact ⟨⟨JC2 h.1 q (KB_rng w (a := 6) (n := 8) (by decide +kernel)) (KB_rng w (a := 19) (n := 16) (by decide +kernel)) (KB_rng w (a := 55) (n := 13) (by decide +kernel)), SIM_same h.2 (fun j hj => KB_rng w (a := 0) (n := 55) (by decide +kernel) j (by omega) (by omega)) (q.2.1 89 (by decide)) (q.2.1 90 (by decide)) (q.2.1 91 (by decide)) (congrFun (q.2.1 88 (by decide)) 3) (congrFun (q.2.1 88 (by decide)) 4)⟩, q.2.1⟩
theorem AX_X11_carries  {s : mG} (h : JSx s) : ok (F_X11_carries s) (fun τ => JSx τ.2 ∧ ∀ j, 88 ≤ j → τ.2.1 j = s.1 j) := ok_mono (A_X11_carries h.1) (fun _ q => ⟨⟨q.1, CRs_rows h.2 q.2⟩, q.2⟩)
theorem A_X12_carries  {s : mG} (h : JS s) : ok (F_X12_carries s) (fun τ => JS τ.2) := by
  refine ok_kk (T_X12_carries h.1.2.1) (QQ_X12_carries kqw0) (W_X12_carries (M := 237684487542793012780631851008) (z := s) sub_rfl KB_rfl) (fun τ q e w => ?_)
  have w : KB 237684487542793012780631851008 s τ.2 := w
  exact ⟨JM2 h.1 q.2.1 (fun j hj => q.2.2.1 j (by omega) (by omega)) e (w 95 (by decide +kernel)), SIM_same h.2 (fun j hj => q.2.2.1 j (by omega) (by omega)) (q.2.2.1 89 (by decide) (by decide)) (q.2.2.1 90 (by decide) (by decide)) (q.2.2.1 91 (by decide) (by decide)) q.2.2.2.1 q.2.2.2.2.1⟩
theorem AX_X12_carries  {s : mG} (h : JSx s) : ok (F_X12_carries s) (fun τ => JSx τ.2) := ok_k (A_X12_carries h.1) (ok_pk (T_X12_carries h.1.1.2.1)) (fun _ q r => ⟨q, CRs_RT h.2 r.2.2⟩)
theorem A_X11_away {a1 : Int32} {a2 : Int32} {s : mG} (h : JS s) : ok (F_X11_away a1 a2 s) (fun τ => JS τ.2 ∧ ∀ j, 88 ≤ j → τ.2.1 j = s.1 j) := by
  refine ok_k (T_X11_away h.1.1) (W_X11_away (M := 1770887431076116955136) (z := s) sub_rfl KB_rfl) (fun τ q w => ?_)
  have w : KB 1770887431076116955136 s τ.2 := w
  exact ⟨⟨JC2 h.1 q (KB_rng w (a := 6) (n := 8) (by decide +kernel)) (KB_rng w (a := 19) (n := 16) (by decide +kernel)) (KB_rng w (a := 55) (n := 13) (by decide +kernel)), SIM_same h.2 (fun j hj => KB_rng w (a := 0) (n := 55) (by decide +kernel) j (by omega) (by omega)) (q.2.1 89 (by decide)) (q.2.1 90 (by decide)) (q.2.1 91 (by decide)) (congrFun (q.2.1 88 (by decide)) 3) (congrFun (q.2.1 88 (by decide)) 4)⟩, q.2.1⟩
theorem AX_X11_away {a1 : Int32} {a2 : Int32} {s : mG} (h : JSx s) : ok (F_X11_away a1 a2 s) (fun τ => JSx τ.2 ∧ ∀ j, 88 ≤ j → τ.2.1 j = s.1 j) := ok_mono (A_X11_away h.1) (fun _ q => ⟨⟨q.1, CRs_rows h.2 q.2⟩, q.2⟩)
theorem A_X12_away {a1 : Int32} {a2 : Int32} {s : mG} (h : JS s) : ok (F_X12_away a1 a2 s) (fun τ => JS τ.2) := by
  refine ok_kk (T_X12_away h.1.2.1) (QQ_X12_away kqw0) (W_X12_away (M := 237684487542793012780631851008) (z := s) sub_rfl KB_rfl) (fun τ q e w => ?_)
  have w : KB 237684487542793012780631851008 s τ.2 := w
  exact ⟨JM2 h.1 q.2.1 (fun j hj => q.2.2.1 j (by omega) (by omega)) e (w 95 (by decide +kernel)), SIM_same h.2 (fun j hj => q.2.2.1 j (by omega) (by omega)) (q.2.2.1 89 (by decide) (by decide)) (q.2.2.1 90 (by decide) (by decide)) (q.2.2.1 91 (by decide) (by decide)) q.2.2.2.1 q.2.2.2.2.1⟩
theorem AX_X12_away {a1 : Int32} {a2 : Int32} {s : mG} (h : JSx s) : ok (F_X12_away a1 a2 s) (fun τ => JSx τ.2) := ok_k (A_X12_away h.1) (ok_pk (T_X12_away h.1.1.2.1)) (fun _ q r => ⟨q, CRs_RT h.2 r.2.2⟩)
theorem CRM_undo  {u : mG} (hI : IM u) (h : CRs u) : pk (F_X12_undo u) (fun υ => CRs υ.2) := CR_of (M := 928455029464035206174343168) (by decide +kernel) h (fun υ e => (ok_pk (T_X12_undo hI) υ e).2.2) (K_X12_undo kv0) (W_X12_undo (M := 928455029464035206174343168) (z := u) sub_rfl KB_rfl)
theorem AC_undo  {s : mG} (h : JL2 s) : ok (F_X11_undo s) (fun τ => JL2 τ.2 ∧ ∀ j, 88 ≤ j → τ.2.1 j = s.1 j) := by
  refine ok_k (T_X11_undo h.1) (W_X11_undo (M := 34359738398) (z := s) sub_rfl KB_rfl) (fun τ q w => ?_)
  have w : KB 34359738398 s τ.2 := w
  exact ⟨JC2 h q.2 (KB_rng w (a := 6) (n := 8) (by decide +kernel)) (KB_rng w (a := 19) (n := 16) (by decide +kernel)) (KB_rng w (a := 55) (n := 13) (by decide +kernel)), q.2.2.1⟩
theorem AM_undo  {s : mG} (h : JL2 s) : ok (F_X12_undo s) (fun τ => JL2 τ.2 ∧ ∀ j, j < 88 → τ.2.1 j = s.1 j) := by
  refine ok_kk (T_X12_undo h.2.1) (QQ_X12_undo kqw0) (W_X12_undo (M := 928455029464035206174343168) (z := s) sub_rfl KB_rfl) (fun τ q e w => ?_)
  have w : KB 928455029464035206174343168 s τ.2 := w
  exact ⟨JM2 h q.2.1.1 q.2.1.2.1 e (w 95 (by decide +kernel)), q.2.1.2.1⟩
theorem P4_undo  {s : mG} (h : JS s) : ok (F_X11_undo s) (fun τ => ok (F_X12_undo τ.2) (fun υ => JS υ.2 ∧ τ.1 = υ.1)) :=
  P4_of (F := F_X11_undo) (G := F_X12_undo) h (AC_undo h.1) (fun u hu => AM_undo hu) (fun u hu => R_undo hu)
theorem PX4_undo  {s : mG} (h : JSx s) : ok (F_X11_undo s) (fun τ => ok (F_X12_undo τ.2) (fun υ => JSx υ.2 ∧ τ.1 = υ.1)) :=
  P4x_of (F := F_X11_undo) (G := F_X12_undo) (E := fun τ υ => τ.1 = υ.1) h (P4_undo h.1) (ok_mono (AC_undo h.1.1) (fun _ q => ⟨q.1.2.1, q.2⟩)) (fun u hu hr => CRM_undo hu hr)
theorem CRM_image {a1 : Int32} {u : mG} (hI : IM u) (h : CRs u) : pk (F_X12_image a1 u) (fun υ => CRs υ.2) := CR_image h
theorem AC_image {a1 : Int32} {s : mG} (h : JL2 s) : ok (F_X11_image a1 s) (fun τ => JL2 τ.2 ∧ ∀ j, 88 ≤ j → τ.2.1 j = s.1 j) := by
  refine ok_kk (T_X11_image h.1) (Z_X11_image h.2.2.1) (W_X11_image (M := 68719476735) (z := s) sub_rfl KB_rfl) (fun τ q c w => ?_)
  have w : KB 68719476735 s τ.2 := w
  exact ⟨JC0 h q.2 c (w 55 (by decide +kernel)) (w 64 (by decide +kernel)), q.2.2.1⟩
theorem AM_image {a1 : Int32} {s : mG} (h : JL2 s) : ok (F_X12_image a1 s) (fun τ => JL2 τ.2 ∧ ∀ j, j < 88 → τ.2.1 j = s.1 j) := by
  refine ok_kk (T_X12_image h.2.1) (QQ_X12_image kqw0) (W_X12_image (M := 2166395068749415481073467392) (z := s) sub_rfl KB_rfl) (fun τ q e w => ?_)
  have w : KB 2166395068749415481073467392 s τ.2 := w
  exact ⟨JM2 h q.2.1 q.2.2.1 e (w 95 (by decide +kernel)), q.2.2.1⟩
theorem P4_image {a1 : Int32} {s : mG} (h : JS s) : ok (F_X11_image a1 s) (fun τ => ok (F_X12_image a1 τ.2) (fun υ => JS υ.2 ∧ τ.1 = υ.1)) :=
  P4_of (F := F_X11_image a1) (G := F_X12_image a1) h (AC_image h.1) (fun u hu => AM_image hu) (fun u hu => R_image hu h.1.2.2.1)
theorem PX4_image {a1 : Int32} {s : mG} (h : JSx s) : ok (F_X11_image a1 s) (fun τ => ok (F_X12_image a1 τ.2) (fun υ => JSx υ.2 ∧ τ.1 = υ.1)) :=
  P4x_of (F := F_X11_image a1) (G := F_X12_image a1) (E := fun τ υ => τ.1 = υ.1) h (P4_image h.1) (ok_mono (AC_image h.1.1) (fun _ q => ⟨q.1.2.1, q.2⟩)) (fun u hu hr => CRM_image hu hr)
def LPo (x3 : Int32) : (Int32 × mG) ⊕ (Int32 × mG) → Prop := lpost (fun v => JSx v.2 ∧ 0 ≤ v.1.toInt ∧ v.1.toInt ≤ 4000) (fun v => mUp v.1) (mUp x3) (fun τ => τ.1 = 1)
theorem law_next {LN : Nat} {Lx : Nat → Int32} {x3 : Int32} {s : mG} (hx0 : 0 ≤ x3.toInt) (hx : x3.toInt + 6 ≤ (LN : Int)) (hL : LN ≤ 3072) (hJ : JSx s) : ok (F_law_1586 LN Lx x3 s) (LPo x3) := by
  have e : (x3 + ci 6).toInt = x3.toInt + 6 := r_add rfl (by decide) (by omega) (by omega)
  have b : 0 ≤ (x3 + ci 6).toInt ∧ (x3 + ci 6).toInt ≤ 4000 := by rw [e]; omega
  have m : mUp (x3 + ci 6) < mUp x3 := by unfold mUp; rw [e]; omega
  unfold F_law_1586
  exact ok_some (lp_inl ⟨hJ, b.1, b.2⟩ m)
theorem T_law_232 {LN : Nat} {Lx : Nat → Int32} {x3 : Int32} {s : mG} (hx0 : 0 ≤ x3.toInt) (hx : x3.toInt + 6 ≤ (LN : Int)) (hL : LN ≤ 3072) (hJ : JSx s) : ok (F_law_232 LN Lx x3 s) (LPo x3) := by
  unfold F_law_232
  refine ok_nn (ix_ok (r_add (rfl : x3.toInt = _) (by decide : (ci 1).toInt = 1) (by omega) (by omega)) (by omega) (by omega)) ?_
  refine ok_b2 (PX4_state hJ) (fun v_1 s_2 q_3 => ?_)
  refine ok_nn (ix_ok (r_add (rfl : x3.toInt = _) (by decide : (ci 1).toInt = 1) (by omega) (by omega)) (by omega) (by omega)) ?_
  refine ok_b2 q_3 (fun v_4 s_5 q_6 => ?_)
  have hJ_7 : JSx s_5 := q_6.1
  exact law_next hx0 hx hL hJ_7
theorem T_law_255 {LN : Nat} {Lx : Nat → Int32} {x3 : Int32} {s : mG} (hx0 : 0 ≤ x3.toInt) (hx : x3.toInt + 6 ≤ (LN : Int)) (hL : LN ≤ 3072) (hJ : JSx s) : ok (F_law_255 LN Lx x3 s) (LPo x3) := by
  unfold F_law_255
  refine ok_nn (ix_ok (r_add (rfl : x3.toInt = _) (by decide : (ci 1).toInt = 1) (by omega) (by omega)) (by omega) (by omega)) ?_
  refine ok_nn (ix_ok (r_add (rfl : x3.toInt = _) (by decide : (ci 2).toInt = 2) (by omega) (by omega)) (by omega) (by omega)) ?_
  refine ok_b2 (PX4_guest hJ) (fun v_1 s_2 q_3 => ?_)
  refine ok_nn (ix_ok (r_add (rfl : x3.toInt = _) (by decide : (ci 1).toInt = 1) (by omega) (by omega)) (by omega) (by omega)) ?_
  refine ok_nn (ix_ok (r_add (rfl : x3.toInt = _) (by decide : (ci 2).toInt = 2) (by omega) (by omega)) (by omega) (by omega)) ?_
  refine ok_b2 q_3 (fun v_4 s_5 q_6 => ?_)
  have hJ_7 : JSx s_5 := q_6.1
  exact law_next hx0 hx hL hJ_7
theorem T_law_288 {LN : Nat} {Lx : Nat → Int32} {x3 : Int32} {s : mG} (hx0 : 0 ≤ x3.toInt) (hx : x3.toInt + 6 ≤ (LN : Int)) (hL : LN ≤ 3072) (hJ : JSx s) : ok (F_law_288 LN Lx x3 s) (LPo x3) := by
  unfold F_law_288
  refine ok_nn (ix_ok (r_add (rfl : x3.toInt = _) (by decide : (ci 1).toInt = 1) (by omega) (by omega)) (by omega) (by omega)) ?_
  refine ok_nn (ix_ok (r_add (rfl : x3.toInt = _) (by decide : (ci 2).toInt = 2) (by omega) (by omega)) (by omega) (by omega)) ?_
  refine ok_nn (ix_ok (r_add (rfl : x3.toInt = _) (by decide : (ci 3).toInt = 3) (by omega) (by omega)) (by omega) (by omega)) ?_
  refine ok_b2 (PX4_set hJ) (fun v_1 s_2 q_3 => ?_)
  refine ok_nn (ix_ok (r_add (rfl : x3.toInt = _) (by decide : (ci 1).toInt = 1) (by omega) (by omega)) (by omega) (by omega)) ?_
  refine ok_nn (ix_ok (r_add (rfl : x3.toInt = _) (by decide : (ci 2).toInt = 2) (by omega) (by omega)) (by omega) (by omega)) ?_
  refine ok_nn (ix_ok (r_add (rfl : x3.toInt = _) (by decide : (ci 3).toInt = 3) (by omega) (by omega)) (by omega) (by omega)) ?_
  refine ok_b2 q_3 (fun v_4 s_5 q_6 => ?_)
  have hJ_7 : JSx s_5 := q_6.1
  exact law_next hx0 hx hL hJ_7
theorem T_law_331 {LN : Nat} {Lx : Nat → Int32} {x3 : Int32} {s : mG} (hx0 : 0 ≤ x3.toInt) (hx : x3.toInt + 6 ≤ (LN : Int)) (hL : LN ≤ 3072) (hJ : JSx s) : ok (F_law_331 LN Lx x3 s) (LPo x3) := by
  unfold F_law_331
  refine ok_nn (ix_ok (r_add (rfl : x3.toInt = _) (by decide : (ci 1).toInt = 1) (by omega) (by omega)) (by omega) (by omega)) ?_
  refine ok_nn (ix_ok (r_add (rfl : x3.toInt = _) (by decide : (ci 2).toInt = 2) (by omega) (by omega)) (by omega) (by omega)) ?_
  refine ok_b2 (PX4_hang hJ) (fun v_1 s_2 q_3 => ?_)
  refine ok_nn (ix_ok (r_add (rfl : x3.toInt = _) (by decide : (ci 1).toInt = 1) (by omega) (by omega)) (by omega) (by omega)) ?_
  refine ok_nn (ix_ok (r_add (rfl : x3.toInt = _) (by decide : (ci 2).toInt = 2) (by omega) (by omega)) (by omega) (by omega)) ?_
  refine ok_b2 q_3 (fun v_4 s_5 q_6 => ?_)
  have hJ_7 : JSx s_5 := q_6.1
  exact law_next hx0 hx hL hJ_7
theorem T_law_364 {LN : Nat} {Lx : Nat → Int32} {x3 : Int32} {s : mG} (hx0 : 0 ≤ x3.toInt) (hx : x3.toInt + 6 ≤ (LN : Int)) (hL : LN ≤ 3072) (hJ : JSx s) : ok (F_law_364 LN Lx x3 s) (LPo x3) := by
  unfold F_law_364
  refine ok_nn (ix_ok (r_add (rfl : x3.toInt = _) (by decide : (ci 1).toInt = 1) (by omega) (by omega)) (by omega) (by omega)) ?_
  refine ok_nn (ix_ok (r_add (rfl : x3.toInt = _) (by decide : (ci 2).toInt = 2) (by omega) (by omega)) (by omega) (by omega)) ?_
  refine ok_nn (ix_ok (r_add (rfl : x3.toInt = _) (by decide : (ci 3).toInt = 3) (by omega) (by omega)) (by omega) (by omega)) ?_
  refine ok_b2 (PX4_looks hJ) (fun v_1 s_2 q_3 => ?_)
  refine ok_nn (ix_ok (r_add (rfl : x3.toInt = _) (by decide : (ci 1).toInt = 1) (by omega) (by omega)) (by omega) (by omega)) ?_
  refine ok_nn (ix_ok (r_add (rfl : x3.toInt = _) (by decide : (ci 2).toInt = 2) (by omega) (by omega)) (by omega) (by omega)) ?_
  refine ok_nn (ix_ok (r_add (rfl : x3.toInt = _) (by decide : (ci 3).toInt = 3) (by omega) (by omega)) (by omega) (by omega)) ?_
  refine ok_b2 q_3 (fun v_4 s_5 q_6 => ?_)
  have hJ_7 : JSx s_5 := q_6.1
  exact law_next hx0 hx hL hJ_7
theorem T_law_407 {LN : Nat} {Lx : Nat → Int32} {x3 : Int32} {s : mG} (hx0 : 0 ≤ x3.toInt) (hx : x3.toInt + 6 ≤ (LN : Int)) (hL : LN ≤ 3072) (hJ : JSx s) : ok (F_law_407 LN Lx x3 s) (LPo x3) := by
  unfold F_law_407
  refine ok_nn (ix_ok (r_add (rfl : x3.toInt = _) (by decide : (ci 1).toInt = 1) (by omega) (by omega)) (by omega) (by omega)) ?_
  refine ok_b2 (PX4_hours hJ) (fun v_1 s_2 q_3 => ?_)
  refine ok_nn (ix_ok (r_add (rfl : x3.toInt = _) (by decide : (ci 1).toInt = 1) (by omega) (by omega)) (by omega) (by omega)) ?_
  refine ok_b2 q_3 (fun v_4 s_5 q_6 => ?_)
  have hJ_7 : JSx s_5 := q_6.1
  exact law_next hx0 hx hL hJ_7
theorem T_law_430 {LN : Nat} {Lx : Nat → Int32} {x3 : Int32} {s : mG} (hx0 : 0 ≤ x3.toInt) (hx : x3.toInt + 6 ≤ (LN : Int)) (hL : LN ≤ 3072) (hJ : JSx s) : ok (F_law_430 LN Lx x3 s) (LPo x3) := by
  unfold F_law_430
  refine ok_nn (ix_ok (r_add (rfl : x3.toInt = _) (by decide : (ci 1).toInt = 1) (by omega) (by omega)) (by omega) (by omega)) ?_
  refine ok_nn (ix_ok (r_add (rfl : x3.toInt = _) (by decide : (ci 2).toInt = 2) (by omega) (by omega)) (by omega) (by omega)) ?_
  refine ok_nn (ix_ok (r_add (rfl : x3.toInt = _) (by decide : (ci 3).toInt = 3) (by omega) (by omega)) (by omega) (by omega)) ?_
  refine ok_nn (ix_ok (r_add (rfl : x3.toInt = _) (by decide : (ci 4).toInt = 4) (by omega) (by omega)) (by omega) (by omega)) ?_
  refine ok_nn (ix_ok (r_add (rfl : x3.toInt = _) (by decide : (ci 5).toInt = 5) (by omega) (by omega)) (by omega) (by omega)) ?_
  refine ok_b2 (PX4_feed hJ) (fun v_1 s_2 q_3 => ?_)
  refine ok_nn (ix_ok (r_add (rfl : x3.toInt = _) (by decide : (ci 1).toInt = 1) (by omega) (by omega)) (by omega) (by omega)) ?_
  refine ok_nn (ix_ok (r_add (rfl : x3.toInt = _) (by decide : (ci 2).toInt = 2) (by omega) (by omega)) (by omega) (by omega)) ?_
  refine ok_nn (ix_ok (r_add (rfl : x3.toInt = _) (by decide : (ci 3).toInt = 3) (by omega) (by omega)) (by omega) (by omega)) ?_
  refine ok_nn (ix_ok (r_add (rfl : x3.toInt = _) (by decide : (ci 4).toInt = 4) (by omega) (by omega)) (by omega) (by omega)) ?_
  refine ok_nn (ix_ok (r_add (rfl : x3.toInt = _) (by decide : (ci 5).toInt = 5) (by omega) (by omega)) (by omega) (by omega)) ?_
  refine ok_b2 q_3 (fun v_4 s_5 q_6 => ?_)
  have hJ_7 : JSx s_5 := q_6.1
  exact law_next hx0 hx hL hJ_7
theorem T_law_493 {LN : Nat} {Lx : Nat → Int32} {x3 : Int32} {s : mG} (hx0 : 0 ≤ x3.toInt) (hx : x3.toInt + 6 ≤ (LN : Int)) (hL : LN ≤ 3072) (hJ : JSx s) : ok (F_law_493 LN Lx x3 s) (LPo x3) := by
  unfold F_law_493
  refine ok_nn (ix_ok (r_add (rfl : x3.toInt = _) (by decide : (ci 1).toInt = 1) (by omega) (by omega)) (by omega) (by omega)) ?_
  refine ok_b2 (PX4_end hJ) (fun v_1 s_2 q_3 => ?_)
  refine ok_nn (ix_ok (r_add (rfl : x3.toInt = _) (by decide : (ci 1).toInt = 1) (by omega) (by omega)) (by omega) (by omega)) ?_
  refine ok_b2 q_3 (fun v_4 s_5 q_6 => ?_)
  have hJ_7 : JSx s_5 := q_6.1
  exact law_next hx0 hx hL hJ_7
theorem T_law_516 {LN : Nat} {Lx : Nat → Int32} {x3 : Int32} {s : mG} (hx0 : 0 ≤ x3.toInt) (hx : x3.toInt + 6 ≤ (LN : Int)) (hL : LN ≤ 3072) (hJ : JSx s) : ok (F_law_516 LN Lx x3 s) (LPo x3) := by
  unfold F_law_516
  refine ok_nn (ix_ok (r_add (rfl : x3.toInt = _) (by decide : (ci 1).toInt = 1) (by omega) (by omega)) (by omega) (by omega)) ?_
  refine ok_b2 (PX4_text hJ) (fun v_1 s_2 q_3 => ?_)
  refine ok_nn (ix_ok (r_add (rfl : x3.toInt = _) (by decide : (ci 1).toInt = 1) (by omega) (by omega)) (by omega) (by omega)) ?_
  refine ok_b2 q_3 (fun v_4 s_5 q_6 => ?_)
  have hJ_7 : JSx s_5 := q_6.1
  exact law_next hx0 hx hL hJ_7
theorem T_law_539 {LN : Nat} {Lx : Nat → Int32} {x3 : Int32} {s : mG} (hx0 : 0 ≤ x3.toInt) (hx : x3.toInt + 6 ≤ (LN : Int)) (hL : LN ≤ 3072) (hJ : JSx s) : ok (F_law_539 LN Lx x3 s) (LPo x3) := by
  unfold F_law_539
  refine ok_nn (ix_ok (r_add (rfl : x3.toInt = _) (by decide : (ci 1).toInt = 1) (by omega) (by omega)) (by omega) (by omega)) ?_
  refine ok_b1 (P := PT) (ok_mono (T_X11_fault hJ.1.1.1) (fun _ _ => trivial)) (fun _ _ => ?_)
  refine ok_nn (ix_ok (r_add (rfl : x3.toInt = _) (by decide : (ci 1).toInt = 1) (by omega) (by omega)) (by omega) (by omega)) ?_
  refine ok_b1 (P := PT) (ok_mono (T_X12_fault hJ.1.1.2.1) (fun _ _ => trivial)) (fun _ _ => ?_)
  exact law_next hx0 hx hL hJ
theorem T_law_562 {LN : Nat} {Lx : Nat → Int32} {x3 : Int32} {s : mG} (hx0 : 0 ≤ x3.toInt) (hx : x3.toInt + 6 ≤ (LN : Int)) (hL : LN ≤ 3072) (hJ : JSx s) : ok (F_law_562 LN Lx x3 s) (LPo x3) := by
  unfold F_law_562
  refine ok_nn (ix_ok (r_add (rfl : x3.toInt = _) (by decide : (ci 1).toInt = 1) (by omega) (by omega)) (by omega) (by omega)) ?_
  refine ok_nn (ix_ok (r_add (rfl : x3.toInt = _) (by decide : (ci 2).toInt = 2) (by omega) (by omega)) (by omega) (by omega)) ?_
  refine ok_b2 (P := fun τ => JSx τ.2) (ok_mono (AX_X11_of hJ) (fun _ q => q.1)) (fun _ s_2 (hJ_3 : JSx s_2) => ?_)
  refine ok_nn (ix_ok (r_add (rfl : x3.toInt = _) (by decide : (ci 1).toInt = 1) (by omega) (by omega)) (by omega) (by omega)) ?_
  refine ok_nn (ix_ok (r_add (rfl : x3.toInt = _) (by decide : (ci 2).toInt = 2) (by omega) (by omega)) (by omega) (by omega)) ?_
  refine ok_b2 (P := fun τ => JSx τ.2) (AX_X12_of hJ_3) (fun _ s_5 (hJ_6 : JSx s_5) => ?_)
  exact law_next hx0 hx hL hJ_6
theorem T_law_595 {LN : Nat} {Lx : Nat → Int32} {x3 : Int32} {s : mG} (hx0 : 0 ≤ x3.toInt) (hx : x3.toInt + 6 ≤ (LN : Int)) (hL : LN ≤ 3072) (hJ : JSx s) : ok (F_law_595 LN Lx x3 s) (LPo x3) := by
  unfold F_law_595
  refine ok_nn (ix_ok (r_add (rfl : x3.toInt = _) (by decide : (ci 1).toInt = 1) (by omega) (by omega)) (by omega) (by omega)) ?_
  refine ok_b1 (P := PT) (ok_mono (T_X11_hook hJ.1.1.1) (fun _ _ => trivial)) (fun _ _ => ?_)
  refine ok_nn (ix_ok (r_add (rfl : x3.toInt = _) (by decide : (ci 1).toInt = 1) (by omega) (by omega)) (by omega) (by omega)) ?_
  refine ok_b1 (P := PT) (ok_mono (T_X12_hook hJ.1.1.2.1) (fun _ _ => trivial)) (fun _ _ => ?_)
  exact law_next hx0 hx hL hJ
theorem T_law_618 {LN : Nat} {Lx : Nat → Int32} {x3 : Int32} {s : mG} (hx0 : 0 ≤ x3.toInt) (hx : x3.toInt + 6 ≤ (LN : Int)) (hL : LN ≤ 3072) (hJ : JSx s) : ok (F_law_618 LN Lx x3 s) (LPo x3) := by
  unfold F_law_618
  refine ok_nn (ix_ok (r_add (rfl : x3.toInt = _) (by decide : (ci 1).toInt = 1) (by omega) (by omega)) (by omega) (by omega)) ?_
  refine ok_nn (ix_ok (r_add (rfl : x3.toInt = _) (by decide : (ci 2).toInt = 2) (by omega) (by omega)) (by omega) (by omega)) ?_
  refine ok_b1 (P := PT) (ok_mono (T_X11_sign hJ.1.1.1) (fun _ _ => trivial)) (fun _ _ => ?_)
  refine ok_nn (ix_ok (r_add (rfl : x3.toInt = _) (by decide : (ci 1).toInt = 1) (by omega) (by omega)) (by omega) (by omega)) ?_
  refine ok_nn (ix_ok (r_add (rfl : x3.toInt = _) (by decide : (ci 2).toInt = 2) (by omega) (by omega)) (by omega) (by omega)) ?_
  refine ok_b1 (P := PT) (ok_mono (T_X12_sign hJ.1.1.2.1) (fun _ _ => trivial)) (fun _ _ => ?_)
  exact law_next hx0 hx hL hJ
theorem T_law_651 {LN : Nat} {Lx : Nat → Int32} {x3 : Int32} {s : mG} (hx0 : 0 ≤ x3.toInt) (hx : x3.toInt + 6 ≤ (LN : Int)) (hL : LN ≤ 3072) (hJ : JSx s) : ok (F_law_651 LN Lx x3 s) (LPo x3) := by
  unfold F_law_651
  refine ok_nn (ix_ok (r_add (rfl : x3.toInt = _) (by decide : (ci 1).toInt = 1) (by omega) (by omega)) (by omega) (by omega)) ?_
  refine ok_nn (ix_ok (r_add (rfl : x3.toInt = _) (by decide : (ci 2).toInt = 2) (by omega) (by omega)) (by omega) (by omega)) ?_
  refine ok_b1 (P := PT) (ok_mono (T_X11_book hJ.1.1.1) (fun _ _ => trivial)) (fun _ _ => ?_)
  refine ok_nn (ix_ok (r_add (rfl : x3.toInt = _) (by decide : (ci 1).toInt = 1) (by omega) (by omega)) (by omega) (by omega)) ?_
  refine ok_nn (ix_ok (r_add (rfl : x3.toInt = _) (by decide : (ci 2).toInt = 2) (by omega) (by omega)) (by omega) (by omega)) ?_
  refine ok_b1 (P := PT) (ok_mono (T_X12_book hJ.1.1.2.1) (fun _ _ => trivial)) (fun _ _ => ?_)
  exact law_next hx0 hx hL hJ
theorem T_law_684 {LN : Nat} {Lx : Nat → Int32} {x3 : Int32} {s : mG} (hx0 : 0 ≤ x3.toInt) (hx : x3.toInt + 6 ≤ (LN : Int)) (hL : LN ≤ 3072) (hJ : JSx s) : ok (F_law_684 LN Lx x3 s) (LPo x3) := by
  unfold F_law_684
  refine ok_nn (ix_ok (r_add (rfl : x3.toInt = _) (by decide : (ci 1).toInt = 1) (by omega) (by omega)) (by omega) (by omega)) ?_
  refine ok_b2 (P := fun τ => JSx τ.2) (ok_mono (AX_X11_next hJ) (fun _ q => q.1)) (fun _ s_2 (hJ_3 : JSx s_2) => ?_)
  refine ok_nn (ix_ok (r_add (rfl : x3.toInt = _) (by decide : (ci 1).toInt = 1) (by omega) (by omega)) (by omega) (by omega)) ?_
  refine ok_b2 (P := fun τ => JSx τ.2) (AX_X12_next hJ_3) (fun _ s_5 (hJ_6 : JSx s_5) => ?_)
  exact law_next hx0 hx hL hJ_6
theorem T_law_707 {LN : Nat} {Lx : Nat → Int32} {x3 : Int32} {s : mG} (hx0 : 0 ≤ x3.toInt) (hx : x3.toInt + 6 ≤ (LN : Int)) (hL : LN ≤ 3072) (hJ : JSx s) : ok (F_law_707 LN Lx x3 s) (LPo x3) := by
  unfold F_law_707
  refine ok_nn (ix_ok (r_add (rfl : x3.toInt = _) (by decide : (ci 1).toInt = 1) (by omega) (by omega)) (by omega) (by omega)) ?_
  refine ok_nn (ix_ok (r_add (rfl : x3.toInt = _) (by decide : (ci 2).toInt = 2) (by omega) (by omega)) (by omega) (by omega)) ?_
  refine ok_nn (ix_ok (r_add (rfl : x3.toInt = _) (by decide : (ci 3).toInt = 3) (by omega) (by omega)) (by omega) (by omega)) ?_
  refine ok_b2 (P := fun τ => JSx τ.2) (ok_mono (AX_X11_say hJ) (fun _ q => q.1)) (fun _ s_2 (hJ_3 : JSx s_2) => ?_)
  refine ok_nn (ix_ok (r_add (rfl : x3.toInt = _) (by decide : (ci 1).toInt = 1) (by omega) (by omega)) (by omega) (by omega)) ?_
  refine ok_nn (ix_ok (r_add (rfl : x3.toInt = _) (by decide : (ci 2).toInt = 2) (by omega) (by omega)) (by omega) (by omega)) ?_
  refine ok_nn (ix_ok (r_add (rfl : x3.toInt = _) (by decide : (ci 3).toInt = 3) (by omega) (by omega)) (by omega) (by omega)) ?_
  refine ok_b2 (P := fun τ => JSx τ.2) (AX_X12_say hJ_3) (fun _ s_5 (hJ_6 : JSx s_5) => ?_)
  exact law_next hx0 hx hL hJ_6
theorem T_law_750 {LN : Nat} {Lx : Nat → Int32} {x3 : Int32} {s : mG} (hx0 : 0 ≤ x3.toInt) (hx : x3.toInt + 6 ≤ (LN : Int)) (hL : LN ≤ 3072) (hJ : JSx s) : ok (F_law_750 LN Lx x3 s) (LPo x3) := by
  unfold F_law_750
  refine ok_nn (ix_ok (r_add (rfl : x3.toInt = _) (by decide : (ci 1).toInt = 1) (by omega) (by omega)) (by omega) (by omega)) ?_
  refine ok_b2 (P := fun τ => JSx τ.2) (ok_mono (AX_X11_many hJ) (fun _ q => q.1)) (fun _ s_2 (hJ_3 : JSx s_2) => ?_)
  refine ok_nn (ix_ok (r_add (rfl : x3.toInt = _) (by decide : (ci 1).toInt = 1) (by omega) (by omega)) (by omega) (by omega)) ?_
  refine ok_b2 (P := fun τ => JSx τ.2) (AX_X12_many hJ_3) (fun _ s_5 (hJ_6 : JSx s_5) => ?_)
  exact law_next hx0 hx hL hJ_6
theorem T_law_773 {LN : Nat} {Lx : Nat → Int32} {x3 : Int32} {s : mG} (hx0 : 0 ≤ x3.toInt) (hx : x3.toInt + 6 ≤ (LN : Int)) (hL : LN ≤ 3072) (hJ : JSx s) : ok (F_law_773 LN Lx x3 s) (LPo x3) := by
  unfold F_law_773
  refine ok_nn (ix_ok (r_add (rfl : x3.toInt = _) (by decide : (ci 1).toInt = 1) (by omega) (by omega)) (by omega) (by omega)) ?_
  refine ok_nn (ix_ok (r_add (rfl : x3.toInt = _) (by decide : (ci 2).toInt = 2) (by omega) (by omega)) (by omega) (by omega)) ?_
  refine ok_b2 (P := fun τ => JSx τ.2) (ok_mono (AX_X11_span hJ) (fun _ q => q.1)) (fun _ s_2 (hJ_3 : JSx s_2) => ?_)
  refine ok_nn (ix_ok (r_add (rfl : x3.toInt = _) (by decide : (ci 1).toInt = 1) (by omega) (by omega)) (by omega) (by omega)) ?_
  refine ok_nn (ix_ok (r_add (rfl : x3.toInt = _) (by decide : (ci 2).toInt = 2) (by omega) (by omega)) (by omega) (by omega)) ?_
  refine ok_b2 (P := fun τ => JSx τ.2) (AX_X12_span hJ_3) (fun _ s_5 (hJ_6 : JSx s_5) => ?_)
  exact law_next hx0 hx hL hJ_6
theorem T_law_806 {LN : Nat} {Lx : Nat → Int32} {x3 : Int32} {s : mG} (hx0 : 0 ≤ x3.toInt) (hx : x3.toInt + 6 ≤ (LN : Int)) (hL : LN ≤ 3072) (hJ : JSx s) : ok (F_law_806 LN Lx x3 s) (LPo x3) := by
  unfold F_law_806
  refine ok_nn (ix_ok (r_add (rfl : x3.toInt = _) (by decide : (ci 1).toInt = 1) (by omega) (by omega)) (by omega) (by omega)) ?_
  refine ok_nn (ix_ok (r_add (rfl : x3.toInt = _) (by decide : (ci 2).toInt = 2) (by omega) (by omega)) (by omega) (by omega)) ?_
  refine ok_b2 (P := fun τ => JSx τ.2) (ok_mono (AX_X11_counted hJ) (fun _ q => q.1)) (fun _ s_2 (hJ_3 : JSx s_2) => ?_)
  refine ok_nn (ix_ok (r_add (rfl : x3.toInt = _) (by decide : (ci 1).toInt = 1) (by omega) (by omega)) (by omega) (by omega)) ?_
  refine ok_nn (ix_ok (r_add (rfl : x3.toInt = _) (by decide : (ci 2).toInt = 2) (by omega) (by omega)) (by omega) (by omega)) ?_
  refine ok_b2 (P := fun τ => JSx τ.2) (AX_X12_counted hJ_3) (fun _ s_5 (hJ_6 : JSx s_5) => ?_)
  exact law_next hx0 hx hL hJ_6
theorem T_law_839 {LN : Nat} {Lx : Nat → Int32} {x3 : Int32} {s : mG} (hx0 : 0 ≤ x3.toInt) (hx : x3.toInt + 6 ≤ (LN : Int)) (hL : LN ≤ 3072) (hJ : JSx s) : ok (F_law_839 LN Lx x3 s) (LPo x3) := by
  unfold F_law_839
  refine ok_nn (ix_ok (r_add (rfl : x3.toInt = _) (by decide : (ci 1).toInt = 1) (by omega) (by omega)) (by omega) (by omega)) ?_
  refine ok_nn (ix_ok (r_add (rfl : x3.toInt = _) (by decide : (ci 2).toInt = 2) (by omega) (by omega)) (by omega) (by omega)) ?_
  refine ok_b2 (P := fun τ => JSx τ.2) (ok_mono (AX_X11_visit hJ) (fun _ q => q.1)) (fun _ s_2 (hJ_3 : JSx s_2) => ?_)
  refine ok_nn (ix_ok (r_add (rfl : x3.toInt = _) (by decide : (ci 1).toInt = 1) (by omega) (by omega)) (by omega) (by omega)) ?_
  refine ok_nn (ix_ok (r_add (rfl : x3.toInt = _) (by decide : (ci 2).toInt = 2) (by omega) (by omega)) (by omega) (by omega)) ?_
  refine ok_b2 (P := fun τ => JSx τ.2) (AX_X12_visit hJ_3) (fun _ s_5 (hJ_6 : JSx s_5) => ?_)
  exact law_next hx0 hx hL hJ_6
theorem T_law_872 {LN : Nat} {Lx : Nat → Int32} {x3 : Int32} {s : mG} (hx0 : 0 ≤ x3.toInt) (hx : x3.toInt + 6 ≤ (LN : Int)) (hL : LN ≤ 3072) (hJ : JSx s) : ok (F_law_872 LN Lx x3 s) (LPo x3) := by
  unfold F_law_872
  refine ok_nn (ix_ok (r_add (rfl : x3.toInt = _) (by decide : (ci 1).toInt = 1) (by omega) (by omega)) (by omega) (by omega)) ?_
  refine ok_b2 (P := fun τ => JSx τ.2) (ok_mono (AX_X11_empty hJ) (fun _ q => q.1)) (fun _ s_2 (hJ_3 : JSx s_2) => ?_)
  refine ok_nn (ix_ok (r_add (rfl : x3.toInt = _) (by decide : (ci 1).toInt = 1) (by omega) (by omega)) (by omega) (by omega)) ?_
  refine ok_b2 (P := fun τ => JSx τ.2) (AX_X12_empty hJ_3) (fun _ s_5 (hJ_6 : JSx s_5) => ?_)
  exact law_next hx0 hx hL hJ_6
theorem T_law_895 {LN : Nat} {Lx : Nat → Int32} {x3 : Int32} {s : mG} (hx0 : 0 ≤ x3.toInt) (hx : x3.toInt + 6 ≤ (LN : Int)) (hL : LN ≤ 3072) (hJ : JSx s) : ok (F_law_895 LN Lx x3 s) (LPo x3) := by
  unfold F_law_895
  refine ok_b1 (P := PT) (ok_mono (T_X11_thief hJ.1.1.1) (fun _ _ => trivial)) (fun _ _ => ?_)
  refine ok_b1 (P := PT) (ok_mono (T_X12_thief hJ.1.1.2.1) (fun _ _ => trivial)) (fun _ _ => ?_)
  exact law_next hx0 hx hL hJ
theorem T_law_908 {LN : Nat} {Lx : Nat → Int32} {x3 : Int32} {s : mG} (hx0 : 0 ≤ x3.toInt) (hx : x3.toInt + 6 ≤ (LN : Int)) (hL : LN ≤ 3072) (hJ : JSx s) : ok (F_law_908 LN Lx x3 s) (LPo x3) := by
  unfold F_law_908
  refine ok_nn (ix_ok (r_add (rfl : x3.toInt = _) (by decide : (ci 1).toInt = 1) (by omega) (by omega)) (by omega) (by omega)) ?_
  refine ok_nn (ix_ok (r_add (rfl : x3.toInt = _) (by decide : (ci 2).toInt = 2) (by omega) (by omega)) (by omega) (by omega)) ?_
  refine ok_nn (ix_ok (r_add (rfl : x3.toInt = _) (by decide : (ci 3).toInt = 3) (by omega) (by omega)) (by omega) (by omega)) ?_
  refine ok_b2 (P := fun τ => JSx τ.2) (ok_mono (AX_X11_tagCost hJ) (fun _ q => q.1)) (fun _ s_2 (hJ_3 : JSx s_2) => ?_)
  refine ok_nn (ix_ok (r_add (rfl : x3.toInt = _) (by decide : (ci 1).toInt = 1) (by omega) (by omega)) (by omega) (by omega)) ?_
  refine ok_nn (ix_ok (r_add (rfl : x3.toInt = _) (by decide : (ci 2).toInt = 2) (by omega) (by omega)) (by omega) (by omega)) ?_
  refine ok_nn (ix_ok (r_add (rfl : x3.toInt = _) (by decide : (ci 3).toInt = 3) (by omega) (by omega)) (by omega) (by omega)) ?_
  refine ok_b2 (P := fun τ => JSx τ.2) (AX_X12_tagCost hJ_3) (fun _ s_5 (hJ_6 : JSx s_5) => ?_)
  exact law_next hx0 hx hL hJ_6
theorem T_law_951 {LN : Nat} {Lx : Nat → Int32} {x3 : Int32} {s : mG} (hx0 : 0 ≤ x3.toInt) (hx : x3.toInt + 6 ≤ (LN : Int)) (hL : LN ≤ 3072) (hJ : JSx s) : ok (F_law_951 LN Lx x3 s) (LPo x3) := by
  unfold F_law_951
  refine ok_nn (ix_ok (r_add (rfl : x3.toInt = _) (by decide : (ci 1).toInt = 1) (by omega) (by omega)) (by omega) (by omega)) ?_
  refine ok_nn (ix_ok (r_add (rfl : x3.toInt = _) (by decide : (ci 2).toInt = 2) (by omega) (by omega)) (by omega) (by omega)) ?_
  refine ok_b1 (P := PT) (ok_mono (T_X11_saw hJ.1.1.1) (fun _ _ => trivial)) (fun _ _ => ?_)
  refine ok_nn (ix_ok (r_add (rfl : x3.toInt = _) (by decide : (ci 1).toInt = 1) (by omega) (by omega)) (by omega) (by omega)) ?_
  refine ok_nn (ix_ok (r_add (rfl : x3.toInt = _) (by decide : (ci 2).toInt = 2) (by omega) (by omega)) (by omega) (by omega)) ?_
  refine ok_b1 (P := PT) (ok_mono (T_X12_saw hJ.1.1.2.1) (fun _ _ => trivial)) (fun _ _ => ?_)
  exact law_next hx0 hx hL hJ
theorem T_law_984 {LN : Nat} {Lx : Nat → Int32} {x3 : Int32} {s : mG} (hx0 : 0 ≤ x3.toInt) (hx : x3.toInt + 6 ≤ (LN : Int)) (hL : LN ≤ 3072) (hJ : JSx s) : ok (F_law_984 LN Lx x3 s) (LPo x3) := by
  unfold F_law_984
  refine ok_nn (ix_ok (r_add (rfl : x3.toInt = _) (by decide : (ci 1).toInt = 1) (by omega) (by omega)) (by omega) (by omega)) ?_
  refine ok_nn (ix_ok (r_add (rfl : x3.toInt = _) (by decide : (ci 2).toInt = 2) (by omega) (by omega)) (by omega) (by omega)) ?_
  refine ok_b1 (P := PT) (ok_mono (T_X11_by hJ.1.1.1) (fun _ _ => trivial)) (fun _ _ => ?_)
  refine ok_nn (ix_ok (r_add (rfl : x3.toInt = _) (by decide : (ci 1).toInt = 1) (by omega) (by omega)) (by omega) (by omega)) ?_
  refine ok_nn (ix_ok (r_add (rfl : x3.toInt = _) (by decide : (ci 2).toInt = 2) (by omega) (by omega)) (by omega) (by omega)) ?_
  refine ok_b1 (P := PT) (ok_mono (T_X12_by hJ.1.1.2.1) (fun _ _ => trivial)) (fun _ _ => ?_)
  exact law_next hx0 hx hL hJ
theorem T_law_1017 {LN : Nat} {Lx : Nat → Int32} {x3 : Int32} {s : mG} (hx0 : 0 ≤ x3.toInt) (hx : x3.toInt + 6 ≤ (LN : Int)) (hL : LN ≤ 3072) (hJ : JSx s) : ok (F_law_1017 LN Lx x3 s) (LPo x3) := by
  unfold F_law_1017
  refine ok_nn (ix_ok (r_add (rfl : x3.toInt = _) (by decide : (ci 1).toInt = 1) (by omega) (by omega)) (by omega) (by omega)) ?_
  refine ok_nn (ix_ok (r_add (rfl : x3.toInt = _) (by decide : (ci 2).toInt = 2) (by omega) (by omega)) (by omega) (by omega)) ?_
  refine ok_nn (ix_ok (r_add (rfl : x3.toInt = _) (by decide : (ci 3).toInt = 3) (by omega) (by omega)) (by omega) (by omega)) ?_
  refine ok_b2 (PX4_caller hJ) (fun v_1 s_2 q_3 => ?_)
  refine ok_nn (ix_ok (r_add (rfl : x3.toInt = _) (by decide : (ci 1).toInt = 1) (by omega) (by omega)) (by omega) (by omega)) ?_
  refine ok_nn (ix_ok (r_add (rfl : x3.toInt = _) (by decide : (ci 2).toInt = 2) (by omega) (by omega)) (by omega) (by omega)) ?_
  refine ok_nn (ix_ok (r_add (rfl : x3.toInt = _) (by decide : (ci 3).toInt = 3) (by omega) (by omega)) (by omega) (by omega)) ?_
  refine ok_b2 q_3 (fun v_4 s_5 q_6 => ?_)
  have hJ_7 : JSx s_5 := q_6.1
  exact law_next hx0 hx hL hJ_7
theorem T_law_1060 {LN : Nat} {Lx : Nat → Int32} {x3 : Int32} {s : mG} (hx0 : 0 ≤ x3.toInt) (hx : x3.toInt + 6 ≤ (LN : Int)) (hL : LN ≤ 3072) (hJ : JSx s) : ok (F_law_1060 LN Lx x3 s) (LPo x3) := by
  unfold F_law_1060
  refine ok_nn (ix_ok (r_add (rfl : x3.toInt = _) (by decide : (ci 1).toInt = 1) (by omega) (by omega)) (by omega) (by omega)) ?_
  refine ok_b2 (P := fun τ => JSx τ.2) (ok_mono (AX_X11_said hJ) (fun _ q => q.1)) (fun _ s_2 (hJ_3 : JSx s_2) => ?_)
  refine ok_nn (ix_ok (r_add (rfl : x3.toInt = _) (by decide : (ci 1).toInt = 1) (by omega) (by omega)) (by omega) (by omega)) ?_
  refine ok_b2 (P := fun τ => JSx τ.2) (AX_X12_said hJ_3) (fun _ s_5 (hJ_6 : JSx s_5) => ?_)
  exact law_next hx0 hx hL hJ_6
theorem T_law_1083 {LN : Nat} {Lx : Nat → Int32} {x3 : Int32} {s : mG} (hx0 : 0 ≤ x3.toInt) (hx : x3.toInt + 6 ≤ (LN : Int)) (hL : LN ≤ 3072) (hJ : JSx s) : ok (F_law_1083 LN Lx x3 s) (LPo x3) := by
  unfold F_law_1083
  refine ok_nn (ix_ok (r_add (rfl : x3.toInt = _) (by decide : (ci 1).toInt = 1) (by omega) (by omega)) (by omega) (by omega)) ?_
  refine ok_nn (ix_ok (r_add (rfl : x3.toInt = _) (by decide : (ci 2).toInt = 2) (by omega) (by omega)) (by omega) (by omega)) ?_
  refine ok_b2 (P := fun τ => JSx τ.2) (ok_mono (AX_X11_looksAt hJ) (fun _ q => q.1)) (fun _ s_2 (hJ_3 : JSx s_2) => ?_)
  refine ok_nn (ix_ok (r_add (rfl : x3.toInt = _) (by decide : (ci 1).toInt = 1) (by omega) (by omega)) (by omega) (by omega)) ?_
  refine ok_nn (ix_ok (r_add (rfl : x3.toInt = _) (by decide : (ci 2).toInt = 2) (by omega) (by omega)) (by omega) (by omega)) ?_
  refine ok_b2 (P := fun τ => JSx τ.2) (AX_X12_looksAt hJ_3) (fun _ s_5 (hJ_6 : JSx s_5) => ?_)
  exact law_next hx0 hx hL hJ_6
theorem T_law_1116 {LN : Nat} {Lx : Nat → Int32} {x3 : Int32} {s : mG} (hx0 : 0 ≤ x3.toInt) (hx : x3.toInt + 6 ≤ (LN : Int)) (hL : LN ≤ 3072) (hJ : JSx s) : ok (F_law_1116 LN Lx x3 s) (LPo x3) := by
  unfold F_law_1116
  refine ok_nn (ix_ok (r_add (rfl : x3.toInt = _) (by decide : (ci 1).toInt = 1) (by omega) (by omega)) (by omega) (by omega)) ?_
  refine ok_b2 (P := fun τ => JSx τ.2) (ok_mono (AX_X11_pair hJ) (fun _ q => q.1)) (fun _ s_2 (hJ_3 : JSx s_2) => ?_)
  refine ok_nn (ix_ok (r_add (rfl : x3.toInt = _) (by decide : (ci 1).toInt = 1) (by omega) (by omega)) (by omega) (by omega)) ?_
  refine ok_b2 (P := fun τ => JSx τ.2) (AX_X12_pair hJ_3) (fun _ s_5 (hJ_6 : JSx s_5) => ?_)
  exact law_next hx0 hx hL hJ_6
theorem T_law_1139 {LN : Nat} {Lx : Nat → Int32} {x3 : Int32} {s : mG} (hx0 : 0 ≤ x3.toInt) (hx : x3.toInt + 6 ≤ (LN : Int)) (hL : LN ≤ 3072) (hJ : JSx s) : ok (F_law_1139 LN Lx x3 s) (LPo x3) := by
  unfold F_law_1139
  refine ok_nn (ix_ok (r_add (rfl : x3.toInt = _) (by decide : (ci 1).toInt = 1) (by omega) (by omega)) (by omega) (by omega)) ?_
  refine ok_b1 (P := PT) (ok_mono (T_X11_ring hJ.1.1.1) (fun _ _ => trivial)) (fun _ _ => ?_)
  refine ok_nn (ix_ok (r_add (rfl : x3.toInt = _) (by decide : (ci 1).toInt = 1) (by omega) (by omega)) (by omega) (by omega)) ?_
  refine ok_b1 (P := PT) (ok_mono (T_X12_ring hJ.1.1.2.1) (fun _ _ => trivial)) (fun _ _ => ?_)
  exact law_next hx0 hx hL hJ
theorem T_law_1162 {LN : Nat} {Lx : Nat → Int32} {x3 : Int32} {s : mG} (hx0 : 0 ≤ x3.toInt) (hx : x3.toInt + 6 ≤ (LN : Int)) (hL : LN ≤ 3072) (hJ : JSx s) : ok (F_law_1162 LN Lx x3 s) (LPo x3) := by
  unfold F_law_1162
  refine ok_nn (ix_ok (r_add (rfl : x3.toInt = _) (by decide : (ci 1).toInt = 1) (by omega) (by omega)) (by omega) (by omega)) ?_
  refine ok_b2 (P := fun τ => JSx τ.2) (ok_mono (AX_X11_busy hJ) (fun _ q => q.1)) (fun _ s_2 (hJ_3 : JSx s_2) => ?_)
  refine ok_nn (ix_ok (r_add (rfl : x3.toInt = _) (by decide : (ci 1).toInt = 1) (by omega) (by omega)) (by omega) (by omega)) ?_
  refine ok_b2 (P := fun τ => JSx τ.2) (AX_X12_busy hJ_3) (fun _ s_5 (hJ_6 : JSx s_5) => ?_)
  exact law_next hx0 hx hL hJ_6
theorem T_law_1185 {LN : Nat} {Lx : Nat → Int32} {x3 : Int32} {s : mG} (hx0 : 0 ≤ x3.toInt) (hx : x3.toInt + 6 ≤ (LN : Int)) (hL : LN ≤ 3072) (hJ : JSx s) : ok (F_law_1185 LN Lx x3 s) (LPo x3) := by
  unfold F_law_1185
  refine ok_b2 (P := fun τ => JSx τ.2) (ok_mono (AX_X11_expect hJ) (fun _ q => q.1)) (fun _ s_2 (hJ_3 : JSx s_2) => ?_)
  refine ok_b2 (P := fun τ => JSx τ.2) (AX_X12_expect hJ_3) (fun _ s_5 (hJ_6 : JSx s_5) => ?_)
  exact law_next hx0 hx hL hJ_6
theorem T_law_1198 {LN : Nat} {Lx : Nat → Int32} {x3 : Int32} {s : mG} (hx0 : 0 ≤ x3.toInt) (hx : x3.toInt + 6 ≤ (LN : Int)) (hL : LN ≤ 3072) (hJ : JSx s) : ok (F_law_1198 LN Lx x3 s) (LPo x3) := by
  unfold F_law_1198
  refine ok_nn (ix_ok (r_add (rfl : x3.toInt = _) (by decide : (ci 1).toInt = 1) (by omega) (by omega)) (by omega) (by omega)) ?_
  refine ok_b2 (P := fun τ => JSx τ.2) (ok_mono (AX_X11_lack hJ) (fun _ q => q.1)) (fun _ s_2 (hJ_3 : JSx s_2) => ?_)
  refine ok_nn (ix_ok (r_add (rfl : x3.toInt = _) (by decide : (ci 1).toInt = 1) (by omega) (by omega)) (by omega) (by omega)) ?_
  refine ok_b2 (P := fun τ => JSx τ.2) (AX_X12_lack hJ_3) (fun _ s_5 (hJ_6 : JSx s_5) => ?_)
  exact law_next hx0 hx hL hJ_6
theorem T_law_1221 {LN : Nat} {Lx : Nat → Int32} {x3 : Int32} {s : mG} (hx0 : 0 ≤ x3.toInt) (hx : x3.toInt + 6 ≤ (LN : Int)) (hL : LN ≤ 3072) (hJ : JSx s) : ok (F_law_1221 LN Lx x3 s) (LPo x3) := by
  unfold F_law_1221
  refine ok_nn (ix_ok (r_add (rfl : x3.toInt = _) (by decide : (ci 1).toInt = 1) (by omega) (by omega)) (by omega) (by omega)) ?_
  refine ok_b2 (PX5_knocks hJ) (fun v_1 s_2 q_3 => ?_)
  refine ok_nn (ix_ok (r_add (rfl : x3.toInt = _) (by decide : (ci 1).toInt = 1) (by omega) (by omega)) (by omega) (by omega)) ?_
  refine ok_b2 q_3 (fun v_4 s_5 q_6 => ?_)
  have hJ_7 : JSx s_5 := q_6.1
  have hE := q_6.2
  refine ok_ite (fun _ => ?_) (fun c => absurd hE c)
  exact law_next hx0 hx hL hJ_7
theorem T_law_1244 {LN : Nat} {Lx : Nat → Int32} {x3 : Int32} {s : mG} (hx0 : 0 ≤ x3.toInt) (hx : x3.toInt + 6 ≤ (LN : Int)) (hL : LN ≤ 3072) (hJ : JSx s) : ok (F_law_1244 LN Lx x3 s) (LPo x3) := by
  unfold F_law_1244
  refine ok_nn (ix_ok (r_add (rfl : x3.toInt = _) (by decide : (ci 1).toInt = 1) (by omega) (by omega)) (by omega) (by omega)) ?_
  refine ok_nn (ix_ok (r_add (rfl : x3.toInt = _) (by decide : (ci 2).toInt = 2) (by omega) (by omega)) (by omega) (by omega)) ?_
  refine ok_b2 (P := fun τ => JSx τ.2) (ok_mono (AX_X11_tag hJ) (fun _ q => q.1)) (fun _ s_2 (hJ_3 : JSx s_2) => ?_)
  refine ok_nn (ix_ok (r_add (rfl : x3.toInt = _) (by decide : (ci 1).toInt = 1) (by omega) (by omega)) (by omega) (by omega)) ?_
  refine ok_nn (ix_ok (r_add (rfl : x3.toInt = _) (by decide : (ci 2).toInt = 2) (by omega) (by omega)) (by omega) (by omega)) ?_
  refine ok_b2 (P := fun τ => JSx τ.2) (AX_X12_tag hJ_3) (fun _ s_5 (hJ_6 : JSx s_5) => ?_)
  exact law_next hx0 hx hL hJ_6
theorem T_law_1277 {LN : Nat} {Lx : Nat → Int32} {x3 : Int32} {s : mG} (hx0 : 0 ≤ x3.toInt) (hx : x3.toInt + 6 ≤ (LN : Int)) (hL : LN ≤ 3072) (hJ : JSx s) : ok (F_law_1277 LN Lx x3 s) (LPo x3) := by
  unfold F_law_1277
  refine ok_nn (ix_ok (r_add (rfl : x3.toInt = _) (by decide : (ci 1).toInt = 1) (by omega) (by omega)) (by omega) (by omega)) ?_
  refine ok_nn (ix_ok (r_add (rfl : x3.toInt = _) (by decide : (ci 2).toInt = 2) (by omega) (by omega)) (by omega) (by omega)) ?_
  refine ok_nn (ix_ok (r_add (rfl : x3.toInt = _) (by decide : (ci 3).toInt = 3) (by omega) (by omega)) (by omega) (by omega)) ?_
  refine ok_nn (ix_ok (r_add (rfl : x3.toInt = _) (by decide : (ci 4).toInt = 4) (by omega) (by omega)) (by omega) (by omega)) ?_
  refine ok_b2 (PX4_room hJ) (fun v_1 s_2 q_3 => ?_)
  refine ok_nn (ix_ok (r_add (rfl : x3.toInt = _) (by decide : (ci 1).toInt = 1) (by omega) (by omega)) (by omega) (by omega)) ?_
  refine ok_nn (ix_ok (r_add (rfl : x3.toInt = _) (by decide : (ci 2).toInt = 2) (by omega) (by omega)) (by omega) (by omega)) ?_
  refine ok_nn (ix_ok (r_add (rfl : x3.toInt = _) (by decide : (ci 3).toInt = 3) (by omega) (by omega)) (by omega) (by omega)) ?_
  refine ok_nn (ix_ok (r_add (rfl : x3.toInt = _) (by decide : (ci 4).toInt = 4) (by omega) (by omega)) (by omega) (by omega)) ?_
  refine ok_b2 q_3 (fun v_4 s_5 q_6 => ?_)
  have hJ_7 : JSx s_5 := q_6.1
  exact law_next hx0 hx hL hJ_7
theorem T_law_1330 {LN : Nat} {Lx : Nat → Int32} {x3 : Int32} {s : mG} (hx0 : 0 ≤ x3.toInt) (hx : x3.toInt + 6 ≤ (LN : Int)) (hL : LN ≤ 3072) (hJ : JSx s) : ok (F_law_1330 LN Lx x3 s) (LPo x3) := by
  unfold F_law_1330
  refine ok_nn (ix_ok (r_add (rfl : x3.toInt = _) (by decide : (ci 1).toInt = 1) (by omega) (by omega)) (by omega) (by omega)) ?_
  refine ok_b1 (P := PT) (ok_mono (T_X11_done hJ.1.1.1) (fun _ _ => trivial)) (fun _ _ => ?_)
  refine ok_nn (ix_ok (r_add (rfl : x3.toInt = _) (by decide : (ci 1).toInt = 1) (by omega) (by omega)) (by omega) (by omega)) ?_
  refine ok_b1 (P := PT) (ok_mono (T_X12_done hJ.1.1.2.1) (fun _ _ => trivial)) (fun _ _ => ?_)
  exact law_next hx0 hx hL hJ
theorem T_law_1353 {LN : Nat} {Lx : Nat → Int32} {x3 : Int32} {s : mG} (hx0 : 0 ≤ x3.toInt) (hx : x3.toInt + 6 ≤ (LN : Int)) (hL : LN ≤ 3072) (hJ : JSx s) : ok (F_law_1353 LN Lx x3 s) (LPo x3) := by
  unfold F_law_1353
  refine ok_nn (ix_ok (r_add (rfl : x3.toInt = _) (by decide : (ci 1).toInt = 1) (by omega) (by omega)) (by omega) (by omega)) ?_
  refine ok_b1 (P := PT) (ok_mono (T_X11_swapped hJ.1.1.1) (fun _ _ => trivial)) (fun _ _ => ?_)
  refine ok_nn (ix_ok (r_add (rfl : x3.toInt = _) (by decide : (ci 1).toInt = 1) (by omega) (by omega)) (by omega) (by omega)) ?_
  refine ok_b1 (P := PT) (ok_mono (T_X12_swapped hJ.1.1.2.1) (fun _ _ => trivial)) (fun _ _ => ?_)
  exact law_next hx0 hx hL hJ
theorem T_law_1376 {LN : Nat} {Lx : Nat → Int32} {x3 : Int32} {s : mG} (hx0 : 0 ≤ x3.toInt) (hx : x3.toInt + 6 ≤ (LN : Int)) (hL : LN ≤ 3072) (hJ : JSx s) : ok (F_law_1376 LN Lx x3 s) (LPo x3) := by
  unfold F_law_1376
  refine ok_nn (ix_ok (r_add (rfl : x3.toInt = _) (by decide : (ci 1).toInt = 1) (by omega) (by omega)) (by omega) (by omega)) ?_
  refine ok_nn (ix_ok (r_add (rfl : x3.toInt = _) (by decide : (ci 2).toInt = 2) (by omega) (by omega)) (by omega) (by omega)) ?_
  refine ok_b2 (P := fun τ => JSx τ.2) (ok_mono (AX_X11_fire hJ) (fun _ q => q.1)) (fun _ s_2 (hJ_3 : JSx s_2) => ?_)
  refine ok_nn (ix_ok (r_add (rfl : x3.toInt = _) (by decide : (ci 1).toInt = 1) (by omega) (by omega)) (by omega) (by omega)) ?_
  refine ok_nn (ix_ok (r_add (rfl : x3.toInt = _) (by decide : (ci 2).toInt = 2) (by omega) (by omega)) (by omega) (by omega)) ?_
  refine ok_b2 (P := fun τ => JSx τ.2) (AX_X12_fire hJ_3) (fun _ s_5 (hJ_6 : JSx s_5) => ?_)
  exact law_next hx0 hx hL hJ_6
theorem T_law_1409 {LN : Nat} {Lx : Nat → Int32} {x3 : Int32} {s : mG} (hx0 : 0 ≤ x3.toInt) (hx : x3.toInt + 6 ≤ (LN : Int)) (hL : LN ≤ 3072) (hJ : JSx s) : ok (F_law_1409 LN Lx x3 s) (LPo x3) := by
  unfold F_law_1409
  refine ok_nn (ix_ok (r_add (rfl : x3.toInt = _) (by decide : (ci 1).toInt = 1) (by omega) (by omega)) (by omega) (by omega)) ?_
  refine ok_nn (ix_ok (r_add (rfl : x3.toInt = _) (by decide : (ci 2).toInt = 2) (by omega) (by omega)) (by omega) (by omega)) ?_
  refine ok_b2 (P := fun τ => JSx τ.2) (ok_mono (AX_X11_stands hJ) (fun _ q => q.1)) (fun _ s_2 (hJ_3 : JSx s_2) => ?_)
  refine ok_nn (ix_ok (r_add (rfl : x3.toInt = _) (by decide : (ci 1).toInt = 1) (by omega) (by omega)) (by omega) (by omega)) ?_
  refine ok_nn (ix_ok (r_add (rfl : x3.toInt = _) (by decide : (ci 2).toInt = 2) (by omega) (by omega)) (by omega) (by omega)) ?_
  refine ok_b2 (P := fun τ => JSx τ.2) (AX_X12_stands hJ_3) (fun _ s_5 (hJ_6 : JSx s_5) => ?_)
  exact law_next hx0 hx hL hJ_6
theorem T_law_1442 {LN : Nat} {Lx : Nat → Int32} {x3 : Int32} {s : mG} (hx0 : 0 ≤ x3.toInt) (hx : x3.toInt + 6 ≤ (LN : Int)) (hL : LN ≤ 3072) (hJ : JSx s) : ok (F_law_1442 LN Lx x3 s) (LPo x3) := by
  unfold F_law_1442
  refine ok_nn (ix_ok (r_add (rfl : x3.toInt = _) (by decide : (ci 1).toInt = 1) (by omega) (by omega)) (by omega) (by omega)) ?_
  refine ok_b1 (P := PT) (ok_mono (T_X11_tellsOn hJ.1.1.1) (fun _ _ => trivial)) (fun _ _ => ?_)
  refine ok_nn (ix_ok (r_add (rfl : x3.toInt = _) (by decide : (ci 1).toInt = 1) (by omega) (by omega)) (by omega) (by omega)) ?_
  refine ok_b1 (P := PT) (ok_mono (T_X12_tellsOn hJ.1.1.2.1) (fun _ _ => trivial)) (fun _ _ => ?_)
  exact law_next hx0 hx hL hJ
theorem T_law_1465 {LN : Nat} {Lx : Nat → Int32} {x3 : Int32} {s : mG} (hx0 : 0 ≤ x3.toInt) (hx : x3.toInt + 6 ≤ (LN : Int)) (hL : LN ≤ 3072) (hJ : JSx s) : ok (F_law_1465 LN Lx x3 s) (LPo x3) := by
  unfold F_law_1465
  refine ok_b2 (P := fun τ => JSx τ.2) (ok_mono (AX_X11_carries hJ) (fun _ q => q.1)) (fun _ s_2 (hJ_3 : JSx s_2) => ?_)
  refine ok_b2 (P := fun τ => JSx τ.2) (AX_X12_carries hJ_3) (fun _ s_5 (hJ_6 : JSx s_5) => ?_)
  exact law_next hx0 hx hL hJ_6
theorem T_law_1478 {LN : Nat} {Lx : Nat → Int32} {x3 : Int32} {s : mG} (hx0 : 0 ≤ x3.toInt) (hx : x3.toInt + 6 ≤ (LN : Int)) (hL : LN ≤ 3072) (hJ : JSx s) : ok (F_law_1478 LN Lx x3 s) (LPo x3) := by
  unfold F_law_1478
  refine ok_nn (ix_ok (r_add (rfl : x3.toInt = _) (by decide : (ci 1).toInt = 1) (by omega) (by omega)) (by omega) (by omega)) ?_
  refine ok_nn (ix_ok (r_add (rfl : x3.toInt = _) (by decide : (ci 2).toInt = 2) (by omega) (by omega)) (by omega) (by omega)) ?_
  refine ok_b2 (P := fun τ => JSx τ.2) (ok_mono (AX_X11_away hJ) (fun _ q => q.1)) (fun _ s_2 (hJ_3 : JSx s_2) => ?_)
  refine ok_nn (ix_ok (r_add (rfl : x3.toInt = _) (by decide : (ci 1).toInt = 1) (by omega) (by omega)) (by omega) (by omega)) ?_
  refine ok_nn (ix_ok (r_add (rfl : x3.toInt = _) (by decide : (ci 2).toInt = 2) (by omega) (by omega)) (by omega) (by omega)) ?_
  refine ok_b2 (P := fun τ => JSx τ.2) (AX_X12_away hJ_3) (fun _ s_5 (hJ_6 : JSx s_5) => ?_)
  exact law_next hx0 hx hL hJ_6
theorem T_law_1511 {LN : Nat} {Lx : Nat → Int32} {x3 : Int32} {s : mG} (hx0 : 0 ≤ x3.toInt) (hx : x3.toInt + 6 ≤ (LN : Int)) (hL : LN ≤ 3072) (hJ : JSx s) : ok (F_law_1511 LN Lx x3 s) (LPo x3) := by
  unfold F_law_1511
  refine ok_b2 (PX4_undo hJ) (fun v_1 s_2 q_3 => ?_)
  refine ok_b2 q_3 (fun v_4 s_5 q_6 => ?_)
  have hJ_7 : JSx s_5 := q_6.1
  exact law_next hx0 hx hL hJ_7
theorem T_law_1524 {LN : Nat} {Lx : Nat → Int32} {x3 : Int32} {s : mG} (hx0 : 0 ≤ x3.toInt) (hx : x3.toInt + 6 ≤ (LN : Int)) (hL : LN ≤ 3072) (hJ : JSx s) : ok (F_law_1524 LN Lx x3 s) (LPo x3) := by
  unfold F_law_1524
  refine ok_nn (ix_ok (r_add (rfl : x3.toInt = _) (by decide : (ci 1).toInt = 1) (by omega) (by omega)) (by omega) (by omega)) ?_
  refine ok_ite (fun c_1 => ?_) (fun c_1 => ?_)
  · unfold F_law_1538
    refine ok_b2 (PX4_image hJ) (fun v_2 s_3 q_4 => ?_)
    refine ok_nn (ix_ok (r_add (rfl : x3.toInt = _) (by decide : (ci 1).toInt = 1) (by omega) (by omega)) (by omega) (by omega)) ?_
    refine ok_ite (fun _ => ?_) (fun c => absurd c_1 c)
    unfold F_law_1556
    refine ok_b2 q_4 (fun v_5 s_6 q_7 => ?_)
    have hJ_8 : JSx s_6 := q_7.1
    exact law_next hx0 hx hL hJ_8
  · unfold F_law_1538
    refine ok_b2 (PX4_image hJ) (fun v_9 s_10 q_11 => ?_)
    refine ok_nn (ix_ok (r_add (rfl : x3.toInt = _) (by decide : (ci 1).toInt = 1) (by omega) (by omega)) (by omega) (by omega)) ?_
    refine ok_ite (fun c => absurd c c_1) (fun _ => ?_)
    unfold F_law_1556
    refine ok_b2 q_11 (fun v_12 s_13 q_14 => ?_)
    have hJ_15 : JSx s_13 := q_14.1
    exact law_next hx0 hx hL hJ_15
theorem T_law_1563 {LN : Nat} {Lx : Nat → Int32} {x3 : Int32} {s : mG} (hx0 : 0 ≤ x3.toInt) (hx : x3.toInt + 6 ≤ (LN : Int)) (hL : LN ≤ 3072) (hJ : JSx s) : ok (F_law_1563 LN Lx x3 s) (LPo x3) := by
  unfold F_law_1563
  refine ok_nn (ix_ok (r_add (rfl : x3.toInt = _) (by decide : (ci 1).toInt = 1) (by omega) (by omega)) (by omega) (by omega)) ?_
  refine ok_b1 (P := PT) (ok_mono (T_X11_look hJ.1.1.1) (fun _ _ => trivial)) (fun _ _ => ?_)
  refine ok_nn (ix_ok (r_add (rfl : x3.toInt = _) (by decide : (ci 1).toInt = 1) (by omega) (by omega)) (by omega) (by omega)) ?_
  refine ok_b1 (P := PT) (ok_mono (T_X12_look hJ.1.1.2.1) (fun _ _ => trivial)) (fun _ _ => ?_)
  exact law_next hx0 hx hL hJ
/-! the start -/
def s0_l : List Nat := [2, 112, 115, 116, 117, 118, 1049, 119, 120, 121, 122, 123, 124, 125, 126, 127, 128, 129, 130]
theorem s0_c : s0_l.all (fun k => decide (s0.1 89 k = 0)) = true := s0_b8
theorem s0_at {k : Nat} (h : k ∈ s0_l) : s0.1 89 k = 0 := of_decide_eq_true (List.all_eq_true.mp s0_c k h)
theorem s0_88 : s0.1 88 3 = 0 ∧ s0.1 88 4 = 0 ∧ s0.1 88 15 = 0 ∧ s0.1 55 9 = 0 := s0_b9
theorem s0_ic : s0.1 2 0 = ci 12 ∧ s0.1 2 3 = 0 := s0_b10
theorem JL2_s0 : JL2 s0 := by
  obtain ⟨e3, e4, e15, e9⟩ := s0_88
  have z := t_zero
  have f : ∀ k, k < 12 → s0.1 89 (119 + k) = 0 := by
    intro k hk
    have hm : 119 + k ∈ s0_l := by
      have : k = 0 ∨ k = 1 ∨ k = 2 ∨ k = 3 ∨ k = 4 ∨ k = 5 ∨ k = 6 ∨ k = 7 ∨ k = 8 ∨ k = 9 ∨ k = 10 ∨ k = 11 := by omega
      rcases this with e | e | e | e | e | e | e | e | e | e | e | e <;> subst e <;> decide
    exact s0_at hm
  have c112 : s0.1 89 112 = 0 := s0_at (by decide)
  have c115 : s0.1 89 115 = 0 := s0_at (by decide)
  have c116 : s0.1 89 116 = 0 := s0_at (by decide)
  have c117 : s0.1 89 117 = 0 := s0_at (by decide)
  have c118 : s0.1 89 118 = 0 := s0_at (by decide)
  have c1049 : s0.1 89 1049 = 0 := s0_at (by decide)
  have c2 : s0.1 89 2 = 0 := s0_at (by decide)
  refine ⟨⟨s0_ic.1, ?_⟩, ⟨⟨?_, ?_, ?_, ?_, ?_, ?_, fun k hk => ?_, fun k hk hl => ?_, fun k hk hl => ?_, fun k hk hl => ?_, fun k hk hl => ?_⟩, ⟨?_, fun a ha hl => ?_, fun a b ha hb hl => ?_⟩, fun h => absurd e4 h, ?_, fun j hj hl => ?_, ?_⟩, CT_s0, JT_s0⟩
  · rw [s0_ic.2, Int32.le_iff_toInt_le, z]; decide
  · rw [c112, z]; omega
  · rw [c115, z]; omega
  · rw [c116, z]; omega
  · rw [c117, z]; omega
  · rw [c118, z]; omega
  · rw [c1049, z]; omega
  · rw [f k hk, z]; omega
  · rw [c115, z] at hl; omega
  · rw [c118, z] at hl; omega
  · rw [c1049, z] at hl; omega
  · rw [c117, z] at hl; omega
  · rw [c2, z]; omega
  · rw [c112, z] at hl; omega
  · rw [c112, z] at hl; omega
  · rw [e3, z]; omega
  · rw [e3, z] at hl; omega
  · rw [e15, z]; omega
theorem JS_s0 : JS s0 := ⟨JL2_s0, SIM_s0⟩
theorem JSx_s0 : JSx s0 := ⟨JS_s0, CRs_s0⟩
theorem T_law_B18 {LN : Nat} {Lx : Nat → Int32} {x3 : Int32} {s : mG} (hx0 : 0 ≤ x3.toInt) (hx3 : x3.toInt ≤ 4000) (hL : LN ≤ 3072) (hJ : JSx s) : ok (F_law_B18 LN Lx x3 s) (LPo x3) := by
  unfold F_law_B18
  refine ok_ite (fun _ => ok_some (lp_inr (show ci 1 = 1 by decide))) (fun c => ?_)
  have hx : x3.toInt + 6 ≤ (LN : Int) := by
    have := r_nlt (r_sub (t_cn (n := LN) (by omega)) (by decide : (c8 6).toInt = 6) (by omega) (by omega)) (rfl : x3.toInt = _) c
    omega
  clear c
  refine ok_nn (ix_ok (rfl : x3.toInt = _) (by omega) (by omega)) ?_
  refine ok_ite (fun _ => T_law_232 hx0 hx hL hJ) (fun _ => ?_)
  refine ok_ite (fun _ => T_law_255 hx0 hx hL hJ) (fun _ => ?_)
  refine ok_ite (fun _ => T_law_288 hx0 hx hL hJ) (fun _ => ?_)
  refine ok_ite (fun _ => T_law_331 hx0 hx hL hJ) (fun _ => ?_)
  refine ok_ite (fun _ => T_law_364 hx0 hx hL hJ) (fun _ => ?_)
  refine ok_ite (fun _ => T_law_407 hx0 hx hL hJ) (fun _ => ?_)
  refine ok_ite (fun _ => T_law_430 hx0 hx hL hJ) (fun _ => ?_)
  refine ok_ite (fun _ => T_law_493 hx0 hx hL hJ) (fun _ => ?_)
  refine ok_ite (fun _ => T_law_516 hx0 hx hL hJ) (fun _ => ?_)
  refine ok_ite (fun _ => T_law_539 hx0 hx hL hJ) (fun _ => ?_)
  refine ok_ite (fun _ => T_law_562 hx0 hx hL hJ) (fun _ => ?_)
  refine ok_ite (fun _ => T_law_595 hx0 hx hL hJ) (fun _ => ?_)
  refine ok_ite (fun _ => T_law_618 hx0 hx hL hJ) (fun _ => ?_)
  refine ok_ite (fun _ => T_law_651 hx0 hx hL hJ) (fun _ => ?_)
  refine ok_ite (fun _ => T_law_684 hx0 hx hL hJ) (fun _ => ?_)
  refine ok_ite (fun _ => T_law_707 hx0 hx hL hJ) (fun _ => ?_)
  refine ok_ite (fun _ => T_law_750 hx0 hx hL hJ) (fun _ => ?_)
  refine ok_ite (fun _ => T_law_773 hx0 hx hL hJ) (fun _ => ?_)
  refine ok_ite (fun _ => T_law_806 hx0 hx hL hJ) (fun _ => ?_)
  refine ok_ite (fun _ => T_law_839 hx0 hx hL hJ) (fun _ => ?_)
  refine ok_ite (fun _ => T_law_872 hx0 hx hL hJ) (fun _ => ?_)
  refine ok_ite (fun _ => T_law_895 hx0 hx hL hJ) (fun _ => ?_)
  refine ok_ite (fun _ => T_law_908 hx0 hx hL hJ) (fun _ => ?_)
  refine ok_ite (fun _ => T_law_951 hx0 hx hL hJ) (fun _ => ?_)
  refine ok_ite (fun _ => T_law_984 hx0 hx hL hJ) (fun _ => ?_)
  refine ok_ite (fun _ => T_law_1017 hx0 hx hL hJ) (fun _ => ?_)
  refine ok_ite (fun _ => T_law_1060 hx0 hx hL hJ) (fun _ => ?_)
  refine ok_ite (fun _ => T_law_1083 hx0 hx hL hJ) (fun _ => ?_)
  refine ok_ite (fun _ => T_law_1116 hx0 hx hL hJ) (fun _ => ?_)
  refine ok_ite (fun _ => T_law_1139 hx0 hx hL hJ) (fun _ => ?_)
  refine ok_ite (fun _ => T_law_1162 hx0 hx hL hJ) (fun _ => ?_)
  refine ok_ite (fun _ => T_law_1185 hx0 hx hL hJ) (fun _ => ?_)
  refine ok_ite (fun _ => T_law_1198 hx0 hx hL hJ) (fun _ => ?_)
  refine ok_ite (fun _ => T_law_1221 hx0 hx hL hJ) (fun _ => ?_)
  refine ok_ite (fun _ => T_law_1244 hx0 hx hL hJ) (fun _ => ?_)
  refine ok_ite (fun _ => T_law_1277 hx0 hx hL hJ) (fun _ => ?_)
  refine ok_ite (fun _ => T_law_1330 hx0 hx hL hJ) (fun _ => ?_)
  refine ok_ite (fun _ => T_law_1353 hx0 hx hL hJ) (fun _ => ?_)
  refine ok_ite (fun _ => T_law_1376 hx0 hx hL hJ) (fun _ => ?_)
  refine ok_ite (fun _ => T_law_1409 hx0 hx hL hJ) (fun _ => ?_)
  refine ok_ite (fun _ => T_law_1442 hx0 hx hL hJ) (fun _ => ?_)
  refine ok_ite (fun _ => T_law_1465 hx0 hx hL hJ) (fun _ => ?_)
  refine ok_ite (fun _ => T_law_1478 hx0 hx hL hJ) (fun _ => ?_)
  refine ok_ite (fun _ => T_law_1511 hx0 hx hL hJ) (fun _ => ?_)
  refine ok_ite (fun _ => T_law_1524 hx0 hx hL hJ) (fun _ => ?_)
  refine ok_ite (fun _ => T_law_1563 hx0 hx hL hJ) (fun _ => ?_)
  exact law_next hx0 hx hL hJ
theorem F_law_ok {L : Nat} {xs : Nat → Int32} {s : mG} (hL : L ≤ 3072) (hJ : JSx s) : ok (F_law L xs s) (fun τ => τ.1 = 1) := by
  unfold F_law F_law_L18
  refine ok_whl (fun v => JSx v.2 ∧ 0 ≤ v.1.toInt ∧ v.1.toInt ≤ 4000) (fun v => mUp v.1) ⟨hJ, show 0 ≤ (ci 0).toInt by decide, show (ci 0).toInt ≤ 4000 by decide⟩ (fun v hv => ?_)
  obtain ⟨x3, s⟩ := v
  obtain ⟨q1, q2, q3⟩ := hv
  exact T_law_B18 q2 q3 hL q1
theorem ok_one {α : Type} {o : Option (Int32 × α)} (h : ok o (fun τ => τ.1 = 1)) : ∃ s', o = some (1, s') := by
  obtain ⟨⟨v, s'⟩, h1, h2⟩ := h
  have h2 : v = 1 := h2
  exact ⟨s', by rw [h1, h2]⟩
theorem F_law_total (L : Nat) (xs : Nat → Int32) (hL : L ≤ 3072) : ∃ s', F_law L xs s0 = some (1, s') := ok_one (F_law_ok hL JSx_s0)
end
