noncomputable section
/-! THE LAW COMES TO ITS 1 -/
theorem A_X11_state {a1 : Int32} {s : mG} (h : JL3 s) : ok (F_X11_state a1 s) (fun τ => JL3 τ.2) := by
  refine ok_kk (T_X11_state h.1.1) (C1_state h.1.2.2.1) (W_X11_state (M := 34359738370) (z := s) sub_rfl KB_rfl) (fun τ q c w => ?_)
  have w : KB 34359738370 s τ.2 := w
  exact ⟨JC h.1 q c (w 0 (by decide +kernel)) (congrFun (w 2 (by decide +kernel)) 3) (w 14 (by decide +kernel)) (w 16 (by decide +kernel)) (fun j h1 h2 => KB_rng w (a := 19) (n := 15) (by decide +kernel) j h1 (by omega)), RR_C h.2 (w 14 (by decide +kernel)) (w 15 (by decide +kernel)) (w 31 (by decide +kernel)) (w 32 (by decide +kernel)) q.2.1⟩
theorem A_X12_state {a1 : Int32} {s : mG} (h : JL3 s) : ok (F_X12_state a1 s) (fun τ => JL3 τ.2) := by
  refine ok_kk (T_X12_state h.1.2.1) (K_X12_state kv0) (W_X12_state (M := 928455029464035206174343168) (z := s) sub_rfl KB_rfl) (fun τ q e4 w => ?_)
  have w : KB 928455029464035206174343168 s τ.2 := w
  have f := (RF_RX q.2)
  exact ⟨JM h.1 f e4 (w 90 (by decide +kernel)), RR_M h.2 f.2.1 (fun j h1 h2 => f.2.2 j (by unfold SK; omega)) e4 (w 90 (by decide +kernel))⟩
theorem A_X11_set {a1 : Int32} {a2 : Int32} {a3 : Int32} {s : mG} (h : JL3 s) : ok (F_X11_set a1 a2 a3 s) (fun τ => JL3 τ.2) := by
  refine ok_kk (T_X11_set h.1.1) (C1_set h.1.2.2.1) (W_X11_set (M := 34359738378) (z := s) sub_rfl KB_rfl) (fun τ q c w => ?_)
  have w : KB 34359738378 s τ.2 := w
  exact ⟨JC h.1 q.2 c (w 0 (by decide +kernel)) (congrFun (w 2 (by decide +kernel)) 3) (w 14 (by decide +kernel)) (w 16 (by decide +kernel)) (fun j h1 h2 => KB_rng w (a := 19) (n := 15) (by decide +kernel) j h1 (by omega)), RR_C h.2 (w 14 (by decide +kernel)) (w 15 (by decide +kernel)) (w 31 (by decide +kernel)) (w 32 (by decide +kernel)) q.2.2.1⟩
theorem A_X12_set {a1 : Int32} {a2 : Int32} {a3 : Int32} {s : mG} (h : JL3 s) : ok (F_X12_set a1 a2 a3 s) (fun τ => JL3 τ.2) := by
  refine ok_kk (T_X12_set h.1.2.1) (K_X12_set kv0) (W_X12_set (M := 928455029464035206174343168) (z := s) sub_rfl KB_rfl) (fun τ q e4 w => ?_)
  have w : KB 928455029464035206174343168 s τ.2 := w
  have f := (RF_RX q.2)
  exact ⟨JM h.1 f e4 (w 90 (by decide +kernel)), RR_M h.2 f.2.1 (fun j h1 h2 => f.2.2 j (by unfold SK; omega)) e4 (w 90 (by decide +kernel))⟩
theorem A_X11_hang {a1 : Int32} {a2 : Int32} {s : mG} (h : JL3 s) : ok (F_X11_hang a1 a2 s) (fun τ => JL3 τ.2) := by
  refine ok_kk (T_X11_hang h.1.1) (C1_hang h.1.2.2.1) (W_X11_hang (M := 36028693939748920) (z := s) sub_rfl KB_rfl) (fun τ q c w => ?_)
  have w : KB 36028693939748920 s τ.2 := w
  exact ⟨JC h.1 q.2 c (w 0 (by decide +kernel)) (congrFun (w 2 (by decide +kernel)) 3) (w 14 (by decide +kernel)) (w 16 (by decide +kernel)) (fun j h1 h2 => KB_rng w (a := 19) (n := 15) (by decide +kernel) j h1 (by omega)), RR_C h.2 (w 14 (by decide +kernel)) (w 15 (by decide +kernel)) (w 31 (by decide +kernel)) (w 32 (by decide +kernel)) q.2.2.1⟩
theorem A_X12_hang {a1 : Int32} {a2 : Int32} {s : mG} (h : JL3 s) : ok (F_X12_hang a1 a2 s) (fun τ => JL3 τ.2) := by
  refine ok_kk (T_X12_hang h.1.2.1) (K_X12_hang kv0) (W_X12_hang (M := 3404335108034795755972591616) (z := s) sub_rfl KB_rfl) (fun τ q e4 w => ?_)
  have w : KB 3404335108034795755972591616 s τ.2 := w
  have f := (RF_RX q.2)
  exact ⟨JM h.1 f e4 (w 90 (by decide +kernel)), RR_M h.2 f.2.1 (fun j h1 h2 => f.2.2 j (by unfold SK; omega)) e4 (w 90 (by decide +kernel))⟩
theorem A_X11_looks {a1 : Int32} {a2 : Int32} {a3 : Int32} {s : mG} (h : JL3 s) : ok (F_X11_looks a1 a2 a3 s) (fun τ => JL3 τ.2) := by
  refine ok_kk (T_X11_looks h.1.1) (C1_looks h.1.2.2.1) (W_X11_looks (M := 36028693939748872) (z := s) sub_rfl KB_rfl) (fun τ q c w => ?_)
  have w : KB 36028693939748872 s τ.2 := w
  exact ⟨JC h.1 q.2 c (w 0 (by decide +kernel)) (congrFun (w 2 (by decide +kernel)) 3) (w 14 (by decide +kernel)) (w 16 (by decide +kernel)) (fun j h1 h2 => KB_rng w (a := 19) (n := 15) (by decide +kernel) j h1 (by omega)), RR_C h.2 (w 14 (by decide +kernel)) (w 15 (by decide +kernel)) (w 31 (by decide +kernel)) (w 32 (by decide +kernel)) q.2.2.1⟩
theorem A_X12_looks {a1 : Int32} {a2 : Int32} {a3 : Int32} {s : mG} (h : JL3 s) : ok (F_X12_looks a1 a2 a3 s) (fun τ => JL3 τ.2) := by
  refine ok_kk (T_X12_looks h.1.2.1) (K_X12_looks kv0) (W_X12_looks (M := 3404335108034795755972591616) (z := s) sub_rfl KB_rfl) (fun τ q e4 w => ?_)
  have w : KB 3404335108034795755972591616 s τ.2 := w
  have f := (RF_RX q.2)
  exact ⟨JM h.1 f e4 (w 90 (by decide +kernel)), RR_M h.2 f.2.1 (fun j h1 h2 => f.2.2 j (by unfold SK; omega)) e4 (w 90 (by decide +kernel))⟩
theorem A_X11_hours {a1 : Int32} {s : mG} (h : JL3 s) : ok (F_X11_hours a1 s) (fun τ => JL3 τ.2) := by
  refine ok_kk (T_X11_hours h.1.1) (C1_hours h.1.2.2.1) (W_X11_hours (M := 6493289942639701917754) (z := s) sub_rfl KB_rfl) (fun τ q c w => ?_)
  have w : KB 6493289942639701917754 s τ.2 := w
  exact ⟨JC h.1 q c (w 0 (by decide +kernel)) (congrFun (w 2 (by decide +kernel)) 3) (w 14 (by decide +kernel)) (w 16 (by decide +kernel)) (fun j h1 h2 => KB_rng w (a := 19) (n := 15) (by decide +kernel) j h1 (by omega)), RR_C h.2 (w 14 (by decide +kernel)) (w 15 (by decide +kernel)) (w 31 (by decide +kernel)) (w 32 (by decide +kernel)) q.2.1⟩
theorem A_X12_hours {a1 : Int32} {s : mG} (h : JL3 s) : ok (F_X12_hours a1 s) (fun τ => JL3 τ.2) := by
  refine ok_kk (T_X12_hours h.1.2.1) (K_X12_hours kv0) (W_X12_hours (M := 241088822650827808536604442624) (z := s) sub_rfl KB_rfl) (fun τ q e4 w => ?_)
  have w : KB 241088822650827808536604442624 s τ.2 := w
  have f := (RF_RX q.2)
  exact ⟨JM h.1 f e4 (w 90 (by decide +kernel)), RR_M h.2 f.2.1 (fun j h1 h2 => f.2.2 j (by unfold SK; omega)) e4 (w 90 (by decide +kernel))⟩
theorem A_X11_feed {a1 : Int32} {a2 : Int32} {a3 : Int32} {a4 : Int32} {a5 : Int32} {s : mG} (h : JL3 s) : ok (F_X11_feed a1 a2 a3 a4 a5 s) (fun τ => JL3 τ.2) := by
  refine ok_kk (T_X11_feed h.1.1) (C1_feed h.1.2.2.1) (W_X11_feed (M := 18482772870728515584) (z := s) sub_rfl KB_rfl) (fun τ q c w => ?_)
  have w : KB 18482772870728515584 s τ.2 := w
  exact ⟨JC h.1 q.1 c (w 0 (by decide +kernel)) (congrFun (w 2 (by decide +kernel)) 3) (w 14 (by decide +kernel)) (w 16 (by decide +kernel)) (fun j h1 h2 => KB_rng w (a := 19) (n := 15) (by decide +kernel) j h1 (by omega)), RR_C h.2 (w 14 (by decide +kernel)) (w 15 (by decide +kernel)) (w 31 (by decide +kernel)) (w 32 (by decide +kernel)) q.1.2.1⟩
theorem A_X12_feed {a1 : Int32} {a2 : Int32} {a3 : Int32} {a4 : Int32} {a5 : Int32} {s : mG} (h : JL3 s) : ok (F_X12_feed a1 a2 a3 a4 a5 s) (fun τ => JL3 τ.2) := by
  refine ok_kk (T_X12_feed h.1.2.1) (K_X12_feed kv0) (W_X12_feed (M := 39923566266953513865496756224) (z := s) sub_rfl KB_rfl) (fun τ q e4 w => ?_)
  have w : KB 39923566266953513865496756224 s τ.2 := w
  have f := q.1
  exact ⟨JM h.1 f e4 (w 90 (by decide +kernel)), RR_M h.2 f.2.1 (fun j h1 h2 => f.2.2 j (by unfold SK; omega)) e4 (w 90 (by decide +kernel))⟩
theorem A_X11_end {a1 : Int32} {s : mG} (h : JL3 s) : ok (F_X11_end a1 s) (fun τ => JL3 τ.2) := by
  refine ok_kk (T_X11_end h.1.1) (C1_end h.1.2.2.1) (W_X11_end (M := 36028797018963968) (z := s) sub_rfl KB_rfl) (fun τ q c w => ?_)
  have w : KB 36028797018963968 s τ.2 := w
  exact ⟨JC h.1 q.1 c (w 0 (by decide +kernel)) (congrFun (w 2 (by decide +kernel)) 3) (w 14 (by decide +kernel)) (w 16 (by decide +kernel)) (fun j h1 h2 => KB_rng w (a := 19) (n := 15) (by decide +kernel) j h1 (by omega)), RR_C h.2 (w 14 (by decide +kernel)) (w 15 (by decide +kernel)) (w 31 (by decide +kernel)) (w 32 (by decide +kernel)) q.1.2.1⟩
theorem A_X12_end {a1 : Int32} {s : mG} (h : JL3 s) : ok (F_X12_end a1 s) (fun τ => JL3 τ.2) := by
  refine ok_kk (T_X12_end h.1.2.1) (K_X12_end kv0) (W_X12_end (M := 309485009821345068724781056) (z := s) sub_rfl KB_rfl) (fun τ q e4 w => ?_)
  have w : KB 309485009821345068724781056 s τ.2 := w
  have f := q.1
  exact ⟨JM h.1 f e4 (w 90 (by decide +kernel)), RR_M h.2 f.2.1 (fun j h1 h2 => f.2.2 j (by unfold SK; omega)) e4 (w 90 (by decide +kernel))⟩
theorem A_X11_text {a1 : Int32} {s : mG} (h : JL3 s) : ok (F_X11_text a1 s) (fun τ => JL3 τ.2) := by
  refine ok_kk (T_X11_text h.1.1) (C1_text h.1.2.2.1) (W_X11_text (M := 276665132342984064968) (z := s) sub_rfl KB_rfl) (fun τ q c w => ?_)
  have w : KB 276665132342984064968 s τ.2 := w
  exact ⟨JC h.1 q.1 c (w 0 (by decide +kernel)) (congrFun (w 2 (by decide +kernel)) 3) (w 14 (by decide +kernel)) (w 16 (by decide +kernel)) (fun j h1 h2 => KB_rng w (a := 19) (n := 15) (by decide +kernel) j h1 (by omega)), RR_C h.2 (w 14 (by decide +kernel)) (w 15 (by decide +kernel)) (w 31 (by decide +kernel)) (w 32 (by decide +kernel)) q.1.2.1⟩
theorem A_X12_text {a1 : Int32} {s : mG} (h : JL3 s) : ok (F_X12_text a1 s) (fun τ => JL3 τ.2) := by
  refine ok_kk (T_X12_text h.1.2.1) (K_X12_text kv0) (W_X12_text (M := 35590776129454682903349821440) (z := s) sub_rfl KB_rfl) (fun τ q e4 w => ?_)
  have w : KB 35590776129454682903349821440 s τ.2 := w
  have f := q.1
  exact ⟨JM h.1 f e4 (w 90 (by decide +kernel)), RR_M h.2 f.2.1 (fun j h1 h2 => f.2.2 j (by unfold SK; omega)) e4 (w 90 (by decide +kernel))⟩
theorem A_X11_of {a1 : Int32} {a2 : Int32} {s : mG} (h : JL3 s) : ok (F_X11_of a1 a2 s) (fun τ => JL3 τ.2) := by
  refine ok_k (T_X11_of h.1.1) (W_X11_of (M := MTH) (z := s) (sub_and (by decide +kernel)) KB_rfl) (fun τ q w => ?_)
  have w : KB MTH s τ.2 := w
  exact ⟨JCt h.1 q w, RR_C h.2 (w 14 (by decide +kernel)) (w 15 (by decide +kernel)) (w 31 (by decide +kernel)) (w 32 (by decide +kernel)) q.2.1⟩
theorem A_X12_of {a1 : Int32} {a2 : Int32} {s : mG} (h : JL3 s) : ok (F_X12_of a1 a2 s) (fun τ => JL3 τ.2) := by
  exact ok_mono (T_X12_of h.1.2.1) (fun τ q => ⟨JMt h.1 q.2, RR_M h.2 (fun j hj => q.2.2.1 j (by omega) (by omega)) (fun j _ _ => congrFun (q.2.2.1 89 (by decide) (by decide)) j) q.2.2.2.2.1 (q.2.2.1 90 (by decide) (by decide))⟩)
theorem A_X11_next {a1 : Int32} {s : mG} (h : JL3 s) : ok (F_X11_next a1 s) (fun τ => JL3 τ.2) := by
  refine ok_k (T_X11_next h.1.1) (W_X11_next (M := MTH) (z := s) (sub_and (by decide +kernel)) KB_rfl) (fun τ q w => ?_)
  have w : KB MTH s τ.2 := w
  exact ⟨JCt h.1 q w, RR_C h.2 (w 14 (by decide +kernel)) (w 15 (by decide +kernel)) (w 31 (by decide +kernel)) (w 32 (by decide +kernel)) q.2.1⟩
theorem A_X12_next {a1 : Int32} {s : mG} (h : JL3 s) : ok (F_X12_next a1 s) (fun τ => JL3 τ.2) := by
  exact ok_mono (T_X12_next h.1.2.1) (fun τ q => ⟨JMt h.1 q.2, RR_M h.2 (fun j hj => q.2.2.1 j (by omega) (by omega)) (fun j _ _ => congrFun (q.2.2.1 89 (by decide) (by decide)) j) q.2.2.2.2.1 (q.2.2.1 90 (by decide) (by decide))⟩)
theorem A_X11_say {a1 : Int32} {a2 : Int32} {a3 : Int32} {s : mG} (h : JL3 s) : ok (F_X11_say a1 a2 a3 s) (fun τ => JL3 τ.2) := by
  refine ok_k (T_X11_say h.1.1) (W_X11_say (M := MTH) (z := s) (sub_and (by decide +kernel)) KB_rfl) (fun τ q w => ?_)
  have w : KB MTH s τ.2 := w
  exact ⟨JCt h.1 q w, RR_C h.2 (w 14 (by decide +kernel)) (w 15 (by decide +kernel)) (w 31 (by decide +kernel)) (w 32 (by decide +kernel)) q.2.1⟩
theorem A_X12_say {a1 : Int32} {a2 : Int32} {a3 : Int32} {s : mG} (h : JL3 s) : ok (F_X12_say a1 a2 a3 s) (fun τ => JL3 τ.2) := by
  exact ok_mono (T_X12_say h.1.2.1) (fun τ q => ⟨JMt h.1 q.2, RR_M h.2 (fun j hj => q.2.2.1 j (by omega) (by omega)) (fun j _ _ => congrFun (q.2.2.1 89 (by decide) (by decide)) j) q.2.2.2.2.1 (q.2.2.1 90 (by decide) (by decide))⟩)
theorem A_X11_many {a1 : Int32} {s : mG} (h : JL3 s) : ok (F_X11_many a1 s) (fun τ => JL3 τ.2) := by
  refine ok_k (T_X11_many h.1.1) (W_X11_many (M := MTH) (z := s) (sub_and (by decide +kernel)) KB_rfl) (fun τ q w => ?_)
  have w : KB MTH s τ.2 := w
  exact ⟨JCt h.1 q w, RR_C h.2 (w 14 (by decide +kernel)) (w 15 (by decide +kernel)) (w 31 (by decide +kernel)) (w 32 (by decide +kernel)) q.2.1⟩
theorem A_X12_many {a1 : Int32} {s : mG} (h : JL3 s) : ok (F_X12_many a1 s) (fun τ => JL3 τ.2) := by
  exact ok_mono (T_X12_many h.1.2.1) (fun τ q => ⟨JMt h.1 q.2, RR_M h.2 (fun j hj => q.2.2.1 j (by omega) (by omega)) (fun j _ _ => congrFun (q.2.2.1 89 (by decide) (by decide)) j) q.2.2.2.2.1 (q.2.2.1 90 (by decide) (by decide))⟩)
theorem A_X11_span {a1 : Int32} {a2 : Int32} {s : mG} (h : JL3 s) : ok (F_X11_span a1 a2 s) (fun τ => JL3 τ.2) := by
  refine ok_k (T_X11_span h.1.1) (W_X11_span (M := MTH) (z := s) (sub_and (by decide +kernel)) KB_rfl) (fun τ q w => ?_)
  have w : KB MTH s τ.2 := w
  exact ⟨JCt h.1 q w, RR_C h.2 (w 14 (by decide +kernel)) (w 15 (by decide +kernel)) (w 31 (by decide +kernel)) (w 32 (by decide +kernel)) q.2.1⟩
theorem A_X12_span {a1 : Int32} {a2 : Int32} {s : mG} (h : JL3 s) : ok (F_X12_span a1 a2 s) (fun τ => JL3 τ.2) := by
  exact ok_mono (T_X12_span h.1.2.1) (fun τ q => ⟨JMt h.1 q.2, RR_M h.2 (fun j hj => q.2.2.1 j (by omega) (by omega)) (fun j _ _ => congrFun (q.2.2.1 89 (by decide) (by decide)) j) q.2.2.2.2.1 (q.2.2.1 90 (by decide) (by decide))⟩)
theorem A_X11_counted {a1 : Int32} {a2 : Int32} {s : mG} (h : JL3 s) : ok (F_X11_counted a1 a2 s) (fun τ => JL3 τ.2) := by
  refine ok_k (T_X11_counted h.1.1) (W_X11_counted (M := MTH) (z := s) (sub_and (by decide +kernel)) KB_rfl) (fun τ q w => ?_)
  have w : KB MTH s τ.2 := w
  exact ⟨JCt h.1 q w, RR_C h.2 (w 14 (by decide +kernel)) (w 15 (by decide +kernel)) (w 31 (by decide +kernel)) (w 32 (by decide +kernel)) q.2.1⟩
theorem A_X12_counted {a1 : Int32} {a2 : Int32} {s : mG} (h : JL3 s) : ok (F_X12_counted a1 a2 s) (fun τ => JL3 τ.2) := by
  exact ok_mono (T_X12_counted h.1.2.1) (fun τ q => ⟨JMt h.1 q.2, RR_M h.2 (fun j hj => q.2.2.1 j (by omega) (by omega)) (fun j _ _ => congrFun (q.2.2.1 89 (by decide) (by decide)) j) q.2.2.2.2.1 (q.2.2.1 90 (by decide) (by decide))⟩)
theorem A_X11_visit {a1 : Int32} {a2 : Int32} {s : mG} (h : JL3 s) : ok (F_X11_visit a1 a2 s) (fun τ => JL3 τ.2) := by
  refine ok_k (T_X11_visit h.1.1) (W_X11_visit (M := MTH) (z := s) (sub_and (by decide +kernel)) KB_rfl) (fun τ q w => ?_)
  have w : KB MTH s τ.2 := w
  exact ⟨JCt h.1 q w, RR_C h.2 (w 14 (by decide +kernel)) (w 15 (by decide +kernel)) (w 31 (by decide +kernel)) (w 32 (by decide +kernel)) q.2.1⟩
theorem A_X12_visit {a1 : Int32} {a2 : Int32} {s : mG} (h : JL3 s) : ok (F_X12_visit a1 a2 s) (fun τ => JL3 τ.2) := by
  exact ok_mono (T_X12_visit h.1.2.1) (fun τ q => ⟨JMt h.1 q.2, RR_M h.2 (fun j hj => q.2.2.1 j (by omega) (by omega)) (fun j _ _ => congrFun (q.2.2.1 89 (by decide) (by decide)) j) q.2.2.2.2.1 (q.2.2.1 90 (by decide) (by decide))⟩)
theorem A_X11_empty {a1 : Int32} {s : mG} (h : JL3 s) : ok (F_X11_empty a1 s) (fun τ => JL3 τ.2) := by
  refine ok_k (T_X11_empty h.1.1) (W_X11_empty (M := MTH) (z := s) (sub_and (by decide +kernel)) KB_rfl) (fun τ q w => ?_)
  have w : KB MTH s τ.2 := w
  exact ⟨JCt h.1 q w, RR_C h.2 (w 14 (by decide +kernel)) (w 15 (by decide +kernel)) (w 31 (by decide +kernel)) (w 32 (by decide +kernel)) q.2.1⟩
theorem A_X12_empty {a1 : Int32} {s : mG} (h : JL3 s) : ok (F_X12_empty a1 s) (fun τ => JL3 τ.2) := by
  exact ok_mono (T_X12_empty h.1.2.1) (fun τ q => ⟨JMt h.1 q.2, RR_M h.2 (fun j hj => q.2.2.1 j (by omega) (by omega)) (fun j _ _ => congrFun (q.2.2.1 89 (by decide) (by decide)) j) q.2.2.2.2.1 (q.2.2.1 90 (by decide) (by decide))⟩)
theorem A_X11_tagCost {a1 : Int32} {a2 : Int32} {a3 : Int32} {s : mG} (h : JL3 s) : ok (F_X11_tagCost a1 a2 a3 s) (fun τ => JL3 τ.2) := by
  refine ok_k (T_X11_tagCost h.1.1) (W_X11_tagCost (M := MTH) (z := s) (sub_and (by decide +kernel)) KB_rfl) (fun τ q w => ?_)
  have w : KB MTH s τ.2 := w
  exact ⟨JCt h.1 q w, RR_C h.2 (w 14 (by decide +kernel)) (w 15 (by decide +kernel)) (w 31 (by decide +kernel)) (w 32 (by decide +kernel)) q.2.1⟩
theorem A_X12_tagCost {a1 : Int32} {a2 : Int32} {a3 : Int32} {s : mG} (h : JL3 s) : ok (F_X12_tagCost a1 a2 a3 s) (fun τ => JL3 τ.2) := by
  exact ok_mono (T_X12_tagCost h.1.2.1) (fun τ q => ⟨JMt h.1 q.2, RR_M h.2 (fun j hj => q.2.2.1 j (by omega) (by omega)) (fun j _ _ => congrFun (q.2.2.1 89 (by decide) (by decide)) j) q.2.2.2.2.1 (q.2.2.1 90 (by decide) (by decide))⟩)
theorem A_X11_said {a1 : Int32} {s : mG} (h : JL3 s) : ok (F_X11_said a1 s) (fun τ => JL3 τ.2) := by
  refine ok_k (T_X11_said h.1.1) (W_X11_said (M := MTH) (z := s) (sub_and (by decide +kernel)) KB_rfl) (fun τ q w => ?_)
  have w : KB MTH s τ.2 := w
  exact ⟨JCt h.1 q w, RR_C h.2 (w 14 (by decide +kernel)) (w 15 (by decide +kernel)) (w 31 (by decide +kernel)) (w 32 (by decide +kernel)) q.2.1⟩
theorem A_X12_said {a1 : Int32} {s : mG} (h : JL3 s) : ok (F_X12_said a1 s) (fun τ => JL3 τ.2) := by
  exact ok_mono (T_X12_said h.1.2.1) (fun τ q => ⟨JMt h.1 q.2, RR_M h.2 (fun j hj => q.2.2.1 j (by omega) (by omega)) (fun j _ _ => congrFun (q.2.2.1 89 (by decide) (by decide)) j) q.2.2.2.2.1 (q.2.2.1 90 (by decide) (by decide))⟩)
theorem A_X11_looksAt {a1 : Int32} {a2 : Int32} {s : mG} (h : JL3 s) : ok (F_X11_looksAt a1 a2 s) (fun τ => JL3 τ.2) := by
  refine ok_k (T_X11_looksAt h.1.1) (W_X11_looksAt (M := MTH) (z := s) (sub_and (by decide +kernel)) KB_rfl) (fun τ q w => ?_)
  have w : KB MTH s τ.2 := w
  exact ⟨JCt h.1 q w, RR_C h.2 (w 14 (by decide +kernel)) (w 15 (by decide +kernel)) (w 31 (by decide +kernel)) (w 32 (by decide +kernel)) q.2.1⟩
theorem A_X12_looksAt {a1 : Int32} {a2 : Int32} {s : mG} (h : JL3 s) : ok (F_X12_looksAt a1 a2 s) (fun τ => JL3 τ.2) := by
  exact ok_mono (T_X12_looksAt h.1.2.1) (fun τ q => ⟨JMt h.1 q.2, RR_M h.2 (fun j hj => q.2.2.1 j (by omega) (by omega)) (fun j _ _ => congrFun (q.2.2.1 89 (by decide) (by decide)) j) q.2.2.2.2.1 (q.2.2.1 90 (by decide) (by decide))⟩)
theorem A_X11_pair {a1 : Int32} {s : mG} (h : JL3 s) : ok (F_X11_pair a1 s) (fun τ => JL3 τ.2) := by
  refine ok_k (T_X11_pair h.1.1) (W_X11_pair (M := MTH) (z := s) (sub_and (by decide +kernel)) KB_rfl) (fun τ q w => ?_)
  have w : KB MTH s τ.2 := w
  exact ⟨JCt h.1 q w, RR_C h.2 (w 14 (by decide +kernel)) (w 15 (by decide +kernel)) (w 31 (by decide +kernel)) (w 32 (by decide +kernel)) q.2.1⟩
theorem A_X12_pair {a1 : Int32} {s : mG} (h : JL3 s) : ok (F_X12_pair a1 s) (fun τ => JL3 τ.2) := by
  exact ok_mono (T_X12_pair h.1.2.1) (fun τ q => ⟨JMt h.1 q.2, RR_M h.2 (fun j hj => q.2.2.1 j (by omega) (by omega)) (fun j _ _ => congrFun (q.2.2.1 89 (by decide) (by decide)) j) q.2.2.2.2.1 (q.2.2.1 90 (by decide) (by decide))⟩)
theorem A_X11_busy {a1 : Int32} {s : mG} (h : JL3 s) : ok (F_X11_busy a1 s) (fun τ => JL3 τ.2) := by
  refine ok_k (T_X11_busy h.1.1) (W_X11_busy (M := MTH) (z := s) (sub_and (by decide +kernel)) KB_rfl) (fun τ q w => ?_)
  have w : KB MTH s τ.2 := w
  exact ⟨JCt h.1 q w, RR_C h.2 (w 14 (by decide +kernel)) (w 15 (by decide +kernel)) (w 31 (by decide +kernel)) (w 32 (by decide +kernel)) q.2.1⟩
theorem A_X12_busy {a1 : Int32} {s : mG} (h : JL3 s) : ok (F_X12_busy a1 s) (fun τ => JL3 τ.2) := by
  exact ok_mono (T_X12_busy h.1.2.1) (fun τ q => ⟨JMt h.1 q.2, RR_M h.2 (fun j hj => q.2.2.1 j (by omega) (by omega)) (fun j _ _ => congrFun (q.2.2.1 89 (by decide) (by decide)) j) q.2.2.2.2.1 (q.2.2.1 90 (by decide) (by decide))⟩)
theorem A_X11_expect  {s : mG} (h : JL3 s) : ok (F_X11_expect s) (fun τ => JL3 τ.2) := by
  refine ok_k (T_X11_expect h.1.1) (W_X11_expect (M := MTH) (z := s) (sub_and (by decide +kernel)) KB_rfl) (fun τ q w => ?_)
  have w : KB MTH s τ.2 := w
  exact ⟨JCt h.1 q w, RR_C h.2 (w 14 (by decide +kernel)) (w 15 (by decide +kernel)) (w 31 (by decide +kernel)) (w 32 (by decide +kernel)) q.2.1⟩
theorem A_X12_expect  {s : mG} (h : JL3 s) : ok (F_X12_expect s) (fun τ => JL3 τ.2) := by
  exact ok_mono (T_X12_expect h.1.2.1) (fun τ q => ⟨JMt h.1 q.2, RR_M h.2 (fun j hj => q.2.2.1 j (by omega) (by omega)) (fun j _ _ => congrFun (q.2.2.1 89 (by decide) (by decide)) j) q.2.2.2.2.1 (q.2.2.1 90 (by decide) (by decide))⟩)
theorem A_X11_lack {a1 : Int32} {s : mG} (h : JL3 s) : ok (F_X11_lack a1 s) (fun τ => JL3 τ.2) := by
  refine ok_k (T_X11_lack h.1.1) (W_X11_lack (M := MTH) (z := s) (sub_and (by decide +kernel)) KB_rfl) (fun τ q w => ?_)
  have w : KB MTH s τ.2 := w
  exact ⟨JCt h.1 q w, RR_C h.2 (w 14 (by decide +kernel)) (w 15 (by decide +kernel)) (w 31 (by decide +kernel)) (w 32 (by decide +kernel)) q.2.1⟩
theorem A_X12_lack {a1 : Int32} {s : mG} (h : JL3 s) : ok (F_X12_lack a1 s) (fun τ => JL3 τ.2) := by
  exact ok_mono (T_X12_lack h.1.2.1) (fun τ q => ⟨JMt h.1 q.2, RR_M h.2 (fun j hj => q.2.2.1 j (by omega) (by omega)) (fun j _ _ => congrFun (q.2.2.1 89 (by decide) (by decide)) j) q.2.2.2.2.1 (q.2.2.1 90 (by decide) (by decide))⟩)
theorem A_X11_knocks {a1 : Int32} {s : mG} (h : JL3 s) : ok (F_X11_knocks a1 s) (fun τ => JL3 τ.2) := by
  refine ok_k (T_X11_knocks h.1.1) (W_X11_knocks (M := MTH) (z := s) (sub_and (by decide +kernel)) KB_rfl) (fun τ q w => ?_)
  have w : KB MTH s τ.2 := w
  exact ⟨JCt h.1 q w, RR_C h.2 (w 14 (by decide +kernel)) (w 15 (by decide +kernel)) (w 31 (by decide +kernel)) (w 32 (by decide +kernel)) q.2.1⟩
theorem A_X12_knocks {a1 : Int32} {s : mG} (h : JL3 s) : ok (F_X12_knocks a1 s) (fun τ => JL3 τ.2) := by
  exact ok_mono (T_X12_knocks h.1.2.1) (fun τ q => ⟨JMt h.1 q.2, RR_M h.2 (fun j hj => q.2.2.1 j (by omega) (by omega)) (fun j _ _ => congrFun (q.2.2.1 89 (by decide) (by decide)) j) q.2.2.2.2.1 (q.2.2.1 90 (by decide) (by decide))⟩)
theorem A_X11_tag {a1 : Int32} {a2 : Int32} {s : mG} (h : JL3 s) : ok (F_X11_tag a1 a2 s) (fun τ => JL3 τ.2) := by
  refine ok_k (T_X11_tag h.1.1) (W_X11_tag (M := MTH) (z := s) (sub_and (by decide +kernel)) KB_rfl) (fun τ q w => ?_)
  have w : KB MTH s τ.2 := w
  exact ⟨JCt h.1 q w, RR_C h.2 (w 14 (by decide +kernel)) (w 15 (by decide +kernel)) (w 31 (by decide +kernel)) (w 32 (by decide +kernel)) q.2.1⟩
theorem A_X12_tag {a1 : Int32} {a2 : Int32} {s : mG} (h : JL3 s) : ok (F_X12_tag a1 a2 s) (fun τ => JL3 τ.2) := by
  exact ok_mono (T_X12_tag h.1.2.1) (fun τ q => ⟨JMt h.1 q.2, RR_M h.2 (fun j hj => q.2.2.1 j (by omega) (by omega)) (fun j _ _ => congrFun (q.2.2.1 89 (by decide) (by decide)) j) q.2.2.2.2.1 (q.2.2.1 90 (by decide) (by decide))⟩)
theorem A_X11_fire {a1 : Int32} {a2 : Int32} {s : mG} (h : JL3 s) : ok (F_X11_fire a1 a2 s) (fun τ => JL3 τ.2) := by
  refine ok_k (T_X11_fire h.1.1) (W_X11_fire (M := MTH) (z := s) (sub_and (by decide +kernel)) KB_rfl) (fun τ q w => ?_)
  have w : KB MTH s τ.2 := w
  exact ⟨JCt h.1 q w, RR_C h.2 (w 14 (by decide +kernel)) (w 15 (by decide +kernel)) (w 31 (by decide +kernel)) (w 32 (by decide +kernel)) q.2.1⟩
theorem A_X12_fire {a1 : Int32} {a2 : Int32} {s : mG} (h : JL3 s) : ok (F_X12_fire a1 a2 s) (fun τ => JL3 τ.2) := by
  exact ok_mono (T_X12_fire h.1.2.1) (fun τ q => ⟨JMt h.1 q.2, RR_M h.2 (fun j hj => q.2.2.1 j (by omega) (by omega)) (fun j _ _ => congrFun (q.2.2.1 89 (by decide) (by decide)) j) q.2.2.2.2.1 (q.2.2.1 90 (by decide) (by decide))⟩)
theorem A_X11_stands {a1 : Int32} {a2 : Int32} {s : mG} (h : JL3 s) : ok (F_X11_stands a1 a2 s) (fun τ => JL3 τ.2) := by
  refine ok_k (T_X11_stands h.1.1) (W_X11_stands (M := MTH) (z := s) (sub_and (by decide +kernel)) KB_rfl) (fun τ q w => ?_)
  have w : KB MTH s τ.2 := w
  exact ⟨JCt h.1 q w, RR_C h.2 (w 14 (by decide +kernel)) (w 15 (by decide +kernel)) (w 31 (by decide +kernel)) (w 32 (by decide +kernel)) q.2.1⟩
theorem A_X12_stands {a1 : Int32} {a2 : Int32} {s : mG} (h : JL3 s) : ok (F_X12_stands a1 a2 s) (fun τ => JL3 τ.2) := by
  exact ok_mono (T_X12_stands h.1.2.1) (fun τ q => ⟨JMt h.1 q.2, RR_M h.2 (fun j hj => q.2.2.1 j (by omega) (by omega)) (fun j _ _ => congrFun (q.2.2.1 89 (by decide) (by decide)) j) q.2.2.2.2.1 (q.2.2.1 90 (by decide) (by decide))⟩)
theorem A_X11_carries  {s : mG} (h : JL3 s) : ok (F_X11_carries s) (fun τ => JL3 τ.2) := by
  refine ok_k (T_X11_carries h.1.1) (W_X11_carries (M := MTH) (z := s) (sub_and (by decide +kernel)) KB_rfl) (fun τ q w => ?_)
  have w : KB MTH s τ.2 := w
  exact ⟨JCt h.1 q w, RR_C h.2 (w 14 (by decide +kernel)) (w 15 (by decide +kernel)) (w 31 (by decide +kernel)) (w 32 (by decide +kernel)) q.2.1⟩
theorem A_X12_carries  {s : mG} (h : JL3 s) : ok (F_X12_carries s) (fun τ => JL3 τ.2) := by
  exact ok_mono (T_X12_carries h.1.2.1) (fun τ q => ⟨JMt h.1 q.2, RR_M h.2 (fun j hj => q.2.2.1 j (by omega) (by omega)) (fun j _ _ => congrFun (q.2.2.1 89 (by decide) (by decide)) j) q.2.2.2.2.1 (q.2.2.1 90 (by decide) (by decide))⟩)
theorem A_X11_away {a1 : Int32} {a2 : Int32} {s : mG} (h : JL3 s) : ok (F_X11_away a1 a2 s) (fun τ => JL3 τ.2) := by
  refine ok_k (T_X11_away h.1.1) (W_X11_away (M := MTH) (z := s) (sub_and (by decide +kernel)) KB_rfl) (fun τ q w => ?_)
  have w : KB MTH s τ.2 := w
  exact ⟨JCt h.1 q w, RR_C h.2 (w 14 (by decide +kernel)) (w 15 (by decide +kernel)) (w 31 (by decide +kernel)) (w 32 (by decide +kernel)) q.2.1⟩
theorem A_X12_away {a1 : Int32} {a2 : Int32} {s : mG} (h : JL3 s) : ok (F_X12_away a1 a2 s) (fun τ => JL3 τ.2) := by
  exact ok_mono (T_X12_away h.1.2.1) (fun τ q => ⟨JMt h.1 q.2, RR_M h.2 (fun j hj => q.2.2.1 j (by omega) (by omega)) (fun j _ _ => congrFun (q.2.2.1 89 (by decide) (by decide)) j) q.2.2.2.2.1 (q.2.2.1 90 (by decide) (by decide))⟩)
theorem A_X11_undo  {s : mG} (h : JL3 s) : ok (F_X11_undo s) (fun τ => JL3 τ.2) := by
  refine ok_kk (T_X11_undo h.1.1) (C1_undo h.1.2.2.1) (W_X11_undo (M := 34359738398) (z := s) sub_rfl KB_rfl) (fun τ q c w => ?_)
  have w : KB 34359738398 s τ.2 := w
  exact ⟨JC h.1 q.2 c.1 (w 0 (by decide +kernel)) c.2.1 (c.2.2 14 (by omega) (by omega)) (c.2.2 16 (by omega) (by omega)) (fun j h1 h2 => c.2.2 j (by omega) (by omega)), RR_C h.2 (w 14 (by decide +kernel)) (w 15 (by decide +kernel)) (w 31 (by decide +kernel)) (w 32 (by decide +kernel)) q.2.2.1⟩
theorem A_X12_undo  {s : mG} (h : JL3 s) : ok (F_X12_undo s) (fun τ => JL3 τ.2) := by
  refine ok_kk (T_X12_undo h.1.2.1) (K_X12_undo kv0) (W_X12_undo (M := 928455029464035206174343168) (z := s) sub_rfl KB_rfl) (fun τ q e4 w => ?_)
  have w : KB 928455029464035206174343168 s τ.2 := w
  have f := (RF_RX q.2)
  exact ⟨JM h.1 f e4 (w 90 (by decide +kernel)), RR_M h.2 f.2.1 (fun j h1 h2 => f.2.2 j (by unfold SK; omega)) e4 (w 90 (by decide +kernel))⟩
def LPo (x3 : Int32) : (Int32 × mG) ⊕ (Int32 × mG) → Prop := lpost (fun v => JL3 v.2 ∧ 0 ≤ v.1.toInt ∧ v.1.toInt ≤ 4000) (fun v => mUp v.1) (mUp x3) (fun τ => τ.1 = 1)
theorem law_next {LN : Nat} {Lx : Nat → Int32} {x3 : Int32} {s : mG} (hx0 : 0 ≤ x3.toInt) (hx : x3.toInt + 6 ≤ (LN : Int)) (hL : LN ≤ 3072) (hJ : JL3 s) : ok (F_law_1586 LN Lx x3 s) (LPo x3) := by
  have e : (x3 + ci 6).toInt = x3.toInt + 6 := r_add rfl (by decide) (by omega) (by omega)
  have b : 0 ≤ (x3 + ci 6).toInt ∧ (x3 + ci 6).toInt ≤ 4000 := by rw [e]; omega
  have m : mUp (x3 + ci 6) < mUp x3 := by unfold mUp; rw [e]; omega
  unfold F_law_1586
  exact ok_some (lp_inl ⟨hJ, b.1, b.2⟩ m)
theorem T_law_232 {LN : Nat} {Lx : Nat → Int32} {x3 : Int32} {s : mG} (hx0 : 0 ≤ x3.toInt) (hx : x3.toInt + 6 ≤ (LN : Int)) (hL : LN ≤ 3072) (hJ : JL3 s) : ok (F_law_232 LN Lx x3 s) (LPo x3) := by
  unfold F_law_232
  refine ok_nn (ix_ok (r_add (rfl : x3.toInt = _) (by decide : (ci 1).toInt = 1) (by omega) (by omega)) (by omega) (by omega)) ?_
  refine ok_b2 (P := fun τ => JL3 τ.2) (A_X11_state hJ) (fun _ s_2 (hJ_3 : JL3 s_2) => ?_)
  refine ok_nn (ix_ok (r_add (rfl : x3.toInt = _) (by decide : (ci 1).toInt = 1) (by omega) (by omega)) (by omega) (by omega)) ?_
  refine ok_b2 (P := fun τ => JL3 τ.2) (A_X12_state hJ_3) (fun _ s_5 (hJ_6 : JL3 s_5) => ?_)
  exact law_next hx0 hx hL hJ_6
theorem T_law_255 {LN : Nat} {Lx : Nat → Int32} {x3 : Int32} {s : mG} (hx0 : 0 ≤ x3.toInt) (hx : x3.toInt + 6 ≤ (LN : Int)) (hL : LN ≤ 3072) (hJ : JL3 s) : ok (F_law_255 LN Lx x3 s) (LPo x3) := by
  unfold F_law_255
  refine ok_nn (ix_ok (r_add (rfl : x3.toInt = _) (by decide : (ci 1).toInt = 1) (by omega) (by omega)) (by omega) (by omega)) ?_
  refine ok_nn (ix_ok (r_add (rfl : x3.toInt = _) (by decide : (ci 2).toInt = 2) (by omega) (by omega)) (by omega) (by omega)) ?_
  refine ok_b2 (P3_guest hJ) (fun v_1 s_2 q_3 => ?_)
  refine ok_nn (ix_ok (r_add (rfl : x3.toInt = _) (by decide : (ci 1).toInt = 1) (by omega) (by omega)) (by omega) (by omega)) ?_
  refine ok_nn (ix_ok (r_add (rfl : x3.toInt = _) (by decide : (ci 2).toInt = 2) (by omega) (by omega)) (by omega) (by omega)) ?_
  refine ok_b2 q_3 (fun v_4 s_5 q_6 => ?_)
  have hJ_7 : JL3 s_5 := q_6.1
  exact law_next hx0 hx hL hJ_7
theorem T_law_288 {LN : Nat} {Lx : Nat → Int32} {x3 : Int32} {s : mG} (hx0 : 0 ≤ x3.toInt) (hx : x3.toInt + 6 ≤ (LN : Int)) (hL : LN ≤ 3072) (hJ : JL3 s) : ok (F_law_288 LN Lx x3 s) (LPo x3) := by
  unfold F_law_288
  refine ok_nn (ix_ok (r_add (rfl : x3.toInt = _) (by decide : (ci 1).toInt = 1) (by omega) (by omega)) (by omega) (by omega)) ?_
  refine ok_nn (ix_ok (r_add (rfl : x3.toInt = _) (by decide : (ci 2).toInt = 2) (by omega) (by omega)) (by omega) (by omega)) ?_
  refine ok_nn (ix_ok (r_add (rfl : x3.toInt = _) (by decide : (ci 3).toInt = 3) (by omega) (by omega)) (by omega) (by omega)) ?_
  refine ok_b2 (P := fun τ => JL3 τ.2) (A_X11_set hJ) (fun _ s_2 (hJ_3 : JL3 s_2) => ?_)
  refine ok_nn (ix_ok (r_add (rfl : x3.toInt = _) (by decide : (ci 1).toInt = 1) (by omega) (by omega)) (by omega) (by omega)) ?_
  refine ok_nn (ix_ok (r_add (rfl : x3.toInt = _) (by decide : (ci 2).toInt = 2) (by omega) (by omega)) (by omega) (by omega)) ?_
  refine ok_nn (ix_ok (r_add (rfl : x3.toInt = _) (by decide : (ci 3).toInt = 3) (by omega) (by omega)) (by omega) (by omega)) ?_
  refine ok_b2 (P := fun τ => JL3 τ.2) (A_X12_set hJ_3) (fun _ s_5 (hJ_6 : JL3 s_5) => ?_)
  exact law_next hx0 hx hL hJ_6
theorem T_law_331 {LN : Nat} {Lx : Nat → Int32} {x3 : Int32} {s : mG} (hx0 : 0 ≤ x3.toInt) (hx : x3.toInt + 6 ≤ (LN : Int)) (hL : LN ≤ 3072) (hJ : JL3 s) : ok (F_law_331 LN Lx x3 s) (LPo x3) := by
  unfold F_law_331
  refine ok_nn (ix_ok (r_add (rfl : x3.toInt = _) (by decide : (ci 1).toInt = 1) (by omega) (by omega)) (by omega) (by omega)) ?_
  refine ok_nn (ix_ok (r_add (rfl : x3.toInt = _) (by decide : (ci 2).toInt = 2) (by omega) (by omega)) (by omega) (by omega)) ?_
  refine ok_b2 (P := fun τ => JL3 τ.2) (A_X11_hang hJ) (fun _ s_2 (hJ_3 : JL3 s_2) => ?_)
  refine ok_nn (ix_ok (r_add (rfl : x3.toInt = _) (by decide : (ci 1).toInt = 1) (by omega) (by omega)) (by omega) (by omega)) ?_
  refine ok_nn (ix_ok (r_add (rfl : x3.toInt = _) (by decide : (ci 2).toInt = 2) (by omega) (by omega)) (by omega) (by omega)) ?_
  refine ok_b2 (P := fun τ => JL3 τ.2) (A_X12_hang hJ_3) (fun _ s_5 (hJ_6 : JL3 s_5) => ?_)
  exact law_next hx0 hx hL hJ_6
theorem T_law_364 {LN : Nat} {Lx : Nat → Int32} {x3 : Int32} {s : mG} (hx0 : 0 ≤ x3.toInt) (hx : x3.toInt + 6 ≤ (LN : Int)) (hL : LN ≤ 3072) (hJ : JL3 s) : ok (F_law_364 LN Lx x3 s) (LPo x3) := by
  unfold F_law_364
  refine ok_nn (ix_ok (r_add (rfl : x3.toInt = _) (by decide : (ci 1).toInt = 1) (by omega) (by omega)) (by omega) (by omega)) ?_
  refine ok_nn (ix_ok (r_add (rfl : x3.toInt = _) (by decide : (ci 2).toInt = 2) (by omega) (by omega)) (by omega) (by omega)) ?_
  refine ok_nn (ix_ok (r_add (rfl : x3.toInt = _) (by decide : (ci 3).toInt = 3) (by omega) (by omega)) (by omega) (by omega)) ?_
  refine ok_b2 (P := fun τ => JL3 τ.2) (A_X11_looks hJ) (fun _ s_2 (hJ_3 : JL3 s_2) => ?_)
  refine ok_nn (ix_ok (r_add (rfl : x3.toInt = _) (by decide : (ci 1).toInt = 1) (by omega) (by omega)) (by omega) (by omega)) ?_
  refine ok_nn (ix_ok (r_add (rfl : x3.toInt = _) (by decide : (ci 2).toInt = 2) (by omega) (by omega)) (by omega) (by omega)) ?_
  refine ok_nn (ix_ok (r_add (rfl : x3.toInt = _) (by decide : (ci 3).toInt = 3) (by omega) (by omega)) (by omega) (by omega)) ?_
  refine ok_b2 (P := fun τ => JL3 τ.2) (A_X12_looks hJ_3) (fun _ s_5 (hJ_6 : JL3 s_5) => ?_)
  exact law_next hx0 hx hL hJ_6
theorem T_law_407 {LN : Nat} {Lx : Nat → Int32} {x3 : Int32} {s : mG} (hx0 : 0 ≤ x3.toInt) (hx : x3.toInt + 6 ≤ (LN : Int)) (hL : LN ≤ 3072) (hJ : JL3 s) : ok (F_law_407 LN Lx x3 s) (LPo x3) := by
  unfold F_law_407
  refine ok_nn (ix_ok (r_add (rfl : x3.toInt = _) (by decide : (ci 1).toInt = 1) (by omega) (by omega)) (by omega) (by omega)) ?_
  refine ok_b2 (P := fun τ => JL3 τ.2) (A_X11_hours hJ) (fun _ s_2 (hJ_3 : JL3 s_2) => ?_)
  refine ok_nn (ix_ok (r_add (rfl : x3.toInt = _) (by decide : (ci 1).toInt = 1) (by omega) (by omega)) (by omega) (by omega)) ?_
  refine ok_b2 (P := fun τ => JL3 τ.2) (A_X12_hours hJ_3) (fun _ s_5 (hJ_6 : JL3 s_5) => ?_)
  exact law_next hx0 hx hL hJ_6
theorem T_law_430 {LN : Nat} {Lx : Nat → Int32} {x3 : Int32} {s : mG} (hx0 : 0 ≤ x3.toInt) (hx : x3.toInt + 6 ≤ (LN : Int)) (hL : LN ≤ 3072) (hJ : JL3 s) : ok (F_law_430 LN Lx x3 s) (LPo x3) := by
  unfold F_law_430
  refine ok_nn (ix_ok (r_add (rfl : x3.toInt = _) (by decide : (ci 1).toInt = 1) (by omega) (by omega)) (by omega) (by omega)) ?_
  refine ok_nn (ix_ok (r_add (rfl : x3.toInt = _) (by decide : (ci 2).toInt = 2) (by omega) (by omega)) (by omega) (by omega)) ?_
  refine ok_nn (ix_ok (r_add (rfl : x3.toInt = _) (by decide : (ci 3).toInt = 3) (by omega) (by omega)) (by omega) (by omega)) ?_
  refine ok_nn (ix_ok (r_add (rfl : x3.toInt = _) (by decide : (ci 4).toInt = 4) (by omega) (by omega)) (by omega) (by omega)) ?_
  refine ok_nn (ix_ok (r_add (rfl : x3.toInt = _) (by decide : (ci 5).toInt = 5) (by omega) (by omega)) (by omega) (by omega)) ?_
  refine ok_b2 (P := fun τ => JL3 τ.2) (A_X11_feed hJ) (fun _ s_2 (hJ_3 : JL3 s_2) => ?_)
  refine ok_nn (ix_ok (r_add (rfl : x3.toInt = _) (by decide : (ci 1).toInt = 1) (by omega) (by omega)) (by omega) (by omega)) ?_
  refine ok_nn (ix_ok (r_add (rfl : x3.toInt = _) (by decide : (ci 2).toInt = 2) (by omega) (by omega)) (by omega) (by omega)) ?_
  refine ok_nn (ix_ok (r_add (rfl : x3.toInt = _) (by decide : (ci 3).toInt = 3) (by omega) (by omega)) (by omega) (by omega)) ?_
  refine ok_nn (ix_ok (r_add (rfl : x3.toInt = _) (by decide : (ci 4).toInt = 4) (by omega) (by omega)) (by omega) (by omega)) ?_
  refine ok_nn (ix_ok (r_add (rfl : x3.toInt = _) (by decide : (ci 5).toInt = 5) (by omega) (by omega)) (by omega) (by omega)) ?_
  refine ok_b2 (P := fun τ => JL3 τ.2) (A_X12_feed hJ_3) (fun _ s_5 (hJ_6 : JL3 s_5) => ?_)
  exact law_next hx0 hx hL hJ_6
theorem T_law_493 {LN : Nat} {Lx : Nat → Int32} {x3 : Int32} {s : mG} (hx0 : 0 ≤ x3.toInt) (hx : x3.toInt + 6 ≤ (LN : Int)) (hL : LN ≤ 3072) (hJ : JL3 s) : ok (F_law_493 LN Lx x3 s) (LPo x3) := by
  unfold F_law_493
  refine ok_nn (ix_ok (r_add (rfl : x3.toInt = _) (by decide : (ci 1).toInt = 1) (by omega) (by omega)) (by omega) (by omega)) ?_
  refine ok_b2 (P := fun τ => JL3 τ.2) (A_X11_end hJ) (fun _ s_2 (hJ_3 : JL3 s_2) => ?_)
  refine ok_nn (ix_ok (r_add (rfl : x3.toInt = _) (by decide : (ci 1).toInt = 1) (by omega) (by omega)) (by omega) (by omega)) ?_
  refine ok_b2 (P := fun τ => JL3 τ.2) (A_X12_end hJ_3) (fun _ s_5 (hJ_6 : JL3 s_5) => ?_)
  exact law_next hx0 hx hL hJ_6
theorem T_law_516 {LN : Nat} {Lx : Nat → Int32} {x3 : Int32} {s : mG} (hx0 : 0 ≤ x3.toInt) (hx : x3.toInt + 6 ≤ (LN : Int)) (hL : LN ≤ 3072) (hJ : JL3 s) : ok (F_law_516 LN Lx x3 s) (LPo x3) := by
  unfold F_law_516
  refine ok_nn (ix_ok (r_add (rfl : x3.toInt = _) (by decide : (ci 1).toInt = 1) (by omega) (by omega)) (by omega) (by omega)) ?_
  refine ok_b2 (P := fun τ => JL3 τ.2) (A_X11_text hJ) (fun _ s_2 (hJ_3 : JL3 s_2) => ?_)
  refine ok_nn (ix_ok (r_add (rfl : x3.toInt = _) (by decide : (ci 1).toInt = 1) (by omega) (by omega)) (by omega) (by omega)) ?_
  refine ok_b2 (P := fun τ => JL3 τ.2) (A_X12_text hJ_3) (fun _ s_5 (hJ_6 : JL3 s_5) => ?_)
  exact law_next hx0 hx hL hJ_6
theorem T_law_539 {LN : Nat} {Lx : Nat → Int32} {x3 : Int32} {s : mG} (hx0 : 0 ≤ x3.toInt) (hx : x3.toInt + 6 ≤ (LN : Int)) (hL : LN ≤ 3072) (hJ : JL3 s) : ok (F_law_539 LN Lx x3 s) (LPo x3) := by
  unfold F_law_539
  refine ok_nn (ix_ok (r_add (rfl : x3.toInt = _) (by decide : (ci 1).toInt = 1) (by omega) (by omega)) (by omega) (by omega)) ?_
  refine ok_b1 (P := PT) (ok_mono (T_X11_fault hJ.1.1) (fun _ _ => trivial)) (fun _ _ => ?_)
  refine ok_nn (ix_ok (r_add (rfl : x3.toInt = _) (by decide : (ci 1).toInt = 1) (by omega) (by omega)) (by omega) (by omega)) ?_
  refine ok_b1 (P := PT) (ok_mono (T_X12_fault hJ.1.2.1) (fun _ _ => trivial)) (fun _ _ => ?_)
  exact law_next hx0 hx hL hJ
theorem T_law_562 {LN : Nat} {Lx : Nat → Int32} {x3 : Int32} {s : mG} (hx0 : 0 ≤ x3.toInt) (hx : x3.toInt + 6 ≤ (LN : Int)) (hL : LN ≤ 3072) (hJ : JL3 s) : ok (F_law_562 LN Lx x3 s) (LPo x3) := by
  unfold F_law_562
  refine ok_nn (ix_ok (r_add (rfl : x3.toInt = _) (by decide : (ci 1).toInt = 1) (by omega) (by omega)) (by omega) (by omega)) ?_
  refine ok_nn (ix_ok (r_add (rfl : x3.toInt = _) (by decide : (ci 2).toInt = 2) (by omega) (by omega)) (by omega) (by omega)) ?_
  refine ok_b2 (P := fun τ => JL3 τ.2) (A_X11_of hJ) (fun _ s_2 (hJ_3 : JL3 s_2) => ?_)
  refine ok_nn (ix_ok (r_add (rfl : x3.toInt = _) (by decide : (ci 1).toInt = 1) (by omega) (by omega)) (by omega) (by omega)) ?_
  refine ok_nn (ix_ok (r_add (rfl : x3.toInt = _) (by decide : (ci 2).toInt = 2) (by omega) (by omega)) (by omega) (by omega)) ?_
  refine ok_b2 (P := fun τ => JL3 τ.2) (A_X12_of hJ_3) (fun _ s_5 (hJ_6 : JL3 s_5) => ?_)
  exact law_next hx0 hx hL hJ_6
theorem T_law_595 {LN : Nat} {Lx : Nat → Int32} {x3 : Int32} {s : mG} (hx0 : 0 ≤ x3.toInt) (hx : x3.toInt + 6 ≤ (LN : Int)) (hL : LN ≤ 3072) (hJ : JL3 s) : ok (F_law_595 LN Lx x3 s) (LPo x3) := by
  unfold F_law_595
  refine ok_nn (ix_ok (r_add (rfl : x3.toInt = _) (by decide : (ci 1).toInt = 1) (by omega) (by omega)) (by omega) (by omega)) ?_
  refine ok_b1 (P := PT) (ok_mono (T_X11_hook hJ.1.1) (fun _ _ => trivial)) (fun _ _ => ?_)
  refine ok_nn (ix_ok (r_add (rfl : x3.toInt = _) (by decide : (ci 1).toInt = 1) (by omega) (by omega)) (by omega) (by omega)) ?_
  refine ok_b1 (P := PT) (ok_mono (T_X12_hook hJ.1.2.1) (fun _ _ => trivial)) (fun _ _ => ?_)
  exact law_next hx0 hx hL hJ
theorem T_law_618 {LN : Nat} {Lx : Nat → Int32} {x3 : Int32} {s : mG} (hx0 : 0 ≤ x3.toInt) (hx : x3.toInt + 6 ≤ (LN : Int)) (hL : LN ≤ 3072) (hJ : JL3 s) : ok (F_law_618 LN Lx x3 s) (LPo x3) := by
  unfold F_law_618
  refine ok_nn (ix_ok (r_add (rfl : x3.toInt = _) (by decide : (ci 1).toInt = 1) (by omega) (by omega)) (by omega) (by omega)) ?_
  refine ok_nn (ix_ok (r_add (rfl : x3.toInt = _) (by decide : (ci 2).toInt = 2) (by omega) (by omega)) (by omega) (by omega)) ?_
  refine ok_b1 (P := PT) (ok_mono (T_X11_sign hJ.1.1) (fun _ _ => trivial)) (fun _ _ => ?_)
  refine ok_nn (ix_ok (r_add (rfl : x3.toInt = _) (by decide : (ci 1).toInt = 1) (by omega) (by omega)) (by omega) (by omega)) ?_
  refine ok_nn (ix_ok (r_add (rfl : x3.toInt = _) (by decide : (ci 2).toInt = 2) (by omega) (by omega)) (by omega) (by omega)) ?_
  refine ok_b1 (P := PT) (ok_mono (T_X12_sign hJ.1.2.1) (fun _ _ => trivial)) (fun _ _ => ?_)
  exact law_next hx0 hx hL hJ
theorem T_law_651 {LN : Nat} {Lx : Nat → Int32} {x3 : Int32} {s : mG} (hx0 : 0 ≤ x3.toInt) (hx : x3.toInt + 6 ≤ (LN : Int)) (hL : LN ≤ 3072) (hJ : JL3 s) : ok (F_law_651 LN Lx x3 s) (LPo x3) := by
  unfold F_law_651
  refine ok_nn (ix_ok (r_add (rfl : x3.toInt = _) (by decide : (ci 1).toInt = 1) (by omega) (by omega)) (by omega) (by omega)) ?_
  refine ok_nn (ix_ok (r_add (rfl : x3.toInt = _) (by decide : (ci 2).toInt = 2) (by omega) (by omega)) (by omega) (by omega)) ?_
  refine ok_b1 (P := PT) (ok_mono (T_X11_book hJ.1.1) (fun _ _ => trivial)) (fun _ _ => ?_)
  refine ok_nn (ix_ok (r_add (rfl : x3.toInt = _) (by decide : (ci 1).toInt = 1) (by omega) (by omega)) (by omega) (by omega)) ?_
  refine ok_nn (ix_ok (r_add (rfl : x3.toInt = _) (by decide : (ci 2).toInt = 2) (by omega) (by omega)) (by omega) (by omega)) ?_
  refine ok_b1 (P := PT) (ok_mono (T_X12_book hJ.1.2.1) (fun _ _ => trivial)) (fun _ _ => ?_)
  exact law_next hx0 hx hL hJ
theorem T_law_684 {LN : Nat} {Lx : Nat → Int32} {x3 : Int32} {s : mG} (hx0 : 0 ≤ x3.toInt) (hx : x3.toInt + 6 ≤ (LN : Int)) (hL : LN ≤ 3072) (hJ : JL3 s) : ok (F_law_684 LN Lx x3 s) (LPo x3) := by
  unfold F_law_684
  refine ok_nn (ix_ok (r_add (rfl : x3.toInt = _) (by decide : (ci 1).toInt = 1) (by omega) (by omega)) (by omega) (by omega)) ?_
  refine ok_b2 (P := fun τ => JL3 τ.2) (A_X11_next hJ) (fun _ s_2 (hJ_3 : JL3 s_2) => ?_)
  refine ok_nn (ix_ok (r_add (rfl : x3.toInt = _) (by decide : (ci 1).toInt = 1) (by omega) (by omega)) (by omega) (by omega)) ?_
  refine ok_b2 (P := fun τ => JL3 τ.2) (A_X12_next hJ_3) (fun _ s_5 (hJ_6 : JL3 s_5) => ?_)
  exact law_next hx0 hx hL hJ_6
theorem T_law_707 {LN : Nat} {Lx : Nat → Int32} {x3 : Int32} {s : mG} (hx0 : 0 ≤ x3.toInt) (hx : x3.toInt + 6 ≤ (LN : Int)) (hL : LN ≤ 3072) (hJ : JL3 s) : ok (F_law_707 LN Lx x3 s) (LPo x3) := by
  unfold F_law_707
  refine ok_nn (ix_ok (r_add (rfl : x3.toInt = _) (by decide : (ci 1).toInt = 1) (by omega) (by omega)) (by omega) (by omega)) ?_
  refine ok_nn (ix_ok (r_add (rfl : x3.toInt = _) (by decide : (ci 2).toInt = 2) (by omega) (by omega)) (by omega) (by omega)) ?_
  refine ok_nn (ix_ok (r_add (rfl : x3.toInt = _) (by decide : (ci 3).toInt = 3) (by omega) (by omega)) (by omega) (by omega)) ?_
  refine ok_b2 (P := fun τ => JL3 τ.2) (A_X11_say hJ) (fun _ s_2 (hJ_3 : JL3 s_2) => ?_)
  refine ok_nn (ix_ok (r_add (rfl : x3.toInt = _) (by decide : (ci 1).toInt = 1) (by omega) (by omega)) (by omega) (by omega)) ?_
  refine ok_nn (ix_ok (r_add (rfl : x3.toInt = _) (by decide : (ci 2).toInt = 2) (by omega) (by omega)) (by omega) (by omega)) ?_
  refine ok_nn (ix_ok (r_add (rfl : x3.toInt = _) (by decide : (ci 3).toInt = 3) (by omega) (by omega)) (by omega) (by omega)) ?_
  refine ok_b2 (P := fun τ => JL3 τ.2) (A_X12_say hJ_3) (fun _ s_5 (hJ_6 : JL3 s_5) => ?_)
  exact law_next hx0 hx hL hJ_6
theorem T_law_750 {LN : Nat} {Lx : Nat → Int32} {x3 : Int32} {s : mG} (hx0 : 0 ≤ x3.toInt) (hx : x3.toInt + 6 ≤ (LN : Int)) (hL : LN ≤ 3072) (hJ : JL3 s) : ok (F_law_750 LN Lx x3 s) (LPo x3) := by
  unfold F_law_750
  refine ok_nn (ix_ok (r_add (rfl : x3.toInt = _) (by decide : (ci 1).toInt = 1) (by omega) (by omega)) (by omega) (by omega)) ?_
  refine ok_b2 (P := fun τ => JL3 τ.2) (A_X11_many hJ) (fun _ s_2 (hJ_3 : JL3 s_2) => ?_)
  refine ok_nn (ix_ok (r_add (rfl : x3.toInt = _) (by decide : (ci 1).toInt = 1) (by omega) (by omega)) (by omega) (by omega)) ?_
  refine ok_b2 (P := fun τ => JL3 τ.2) (A_X12_many hJ_3) (fun _ s_5 (hJ_6 : JL3 s_5) => ?_)
  exact law_next hx0 hx hL hJ_6
theorem T_law_773 {LN : Nat} {Lx : Nat → Int32} {x3 : Int32} {s : mG} (hx0 : 0 ≤ x3.toInt) (hx : x3.toInt + 6 ≤ (LN : Int)) (hL : LN ≤ 3072) (hJ : JL3 s) : ok (F_law_773 LN Lx x3 s) (LPo x3) := by
  unfold F_law_773
  refine ok_nn (ix_ok (r_add (rfl : x3.toInt = _) (by decide : (ci 1).toInt = 1) (by omega) (by omega)) (by omega) (by omega)) ?_
  refine ok_nn (ix_ok (r_add (rfl : x3.toInt = _) (by decide : (ci 2).toInt = 2) (by omega) (by omega)) (by omega) (by omega)) ?_
  refine ok_b2 (P := fun τ => JL3 τ.2) (A_X11_span hJ) (fun _ s_2 (hJ_3 : JL3 s_2) => ?_)
  refine ok_nn (ix_ok (r_add (rfl : x3.toInt = _) (by decide : (ci 1).toInt = 1) (by omega) (by omega)) (by omega) (by omega)) ?_
  refine ok_nn (ix_ok (r_add (rfl : x3.toInt = _) (by decide : (ci 2).toInt = 2) (by omega) (by omega)) (by omega) (by omega)) ?_
  refine ok_b2 (P := fun τ => JL3 τ.2) (A_X12_span hJ_3) (fun _ s_5 (hJ_6 : JL3 s_5) => ?_)
  exact law_next hx0 hx hL hJ_6
theorem T_law_806 {LN : Nat} {Lx : Nat → Int32} {x3 : Int32} {s : mG} (hx0 : 0 ≤ x3.toInt) (hx : x3.toInt + 6 ≤ (LN : Int)) (hL : LN ≤ 3072) (hJ : JL3 s) : ok (F_law_806 LN Lx x3 s) (LPo x3) := by
  unfold F_law_806
  refine ok_nn (ix_ok (r_add (rfl : x3.toInt = _) (by decide : (ci 1).toInt = 1) (by omega) (by omega)) (by omega) (by omega)) ?_
  refine ok_nn (ix_ok (r_add (rfl : x3.toInt = _) (by decide : (ci 2).toInt = 2) (by omega) (by omega)) (by omega) (by omega)) ?_
  refine ok_b2 (P := fun τ => JL3 τ.2) (A_X11_counted hJ) (fun _ s_2 (hJ_3 : JL3 s_2) => ?_)
  refine ok_nn (ix_ok (r_add (rfl : x3.toInt = _) (by decide : (ci 1).toInt = 1) (by omega) (by omega)) (by omega) (by omega)) ?_
  refine ok_nn (ix_ok (r_add (rfl : x3.toInt = _) (by decide : (ci 2).toInt = 2) (by omega) (by omega)) (by omega) (by omega)) ?_
  refine ok_b2 (P := fun τ => JL3 τ.2) (A_X12_counted hJ_3) (fun _ s_5 (hJ_6 : JL3 s_5) => ?_)
  exact law_next hx0 hx hL hJ_6
theorem T_law_839 {LN : Nat} {Lx : Nat → Int32} {x3 : Int32} {s : mG} (hx0 : 0 ≤ x3.toInt) (hx : x3.toInt + 6 ≤ (LN : Int)) (hL : LN ≤ 3072) (hJ : JL3 s) : ok (F_law_839 LN Lx x3 s) (LPo x3) := by
  unfold F_law_839
  refine ok_nn (ix_ok (r_add (rfl : x3.toInt = _) (by decide : (ci 1).toInt = 1) (by omega) (by omega)) (by omega) (by omega)) ?_
  refine ok_nn (ix_ok (r_add (rfl : x3.toInt = _) (by decide : (ci 2).toInt = 2) (by omega) (by omega)) (by omega) (by omega)) ?_
  refine ok_b2 (P := fun τ => JL3 τ.2) (A_X11_visit hJ) (fun _ s_2 (hJ_3 : JL3 s_2) => ?_)
  refine ok_nn (ix_ok (r_add (rfl : x3.toInt = _) (by decide : (ci 1).toInt = 1) (by omega) (by omega)) (by omega) (by omega)) ?_
  refine ok_nn (ix_ok (r_add (rfl : x3.toInt = _) (by decide : (ci 2).toInt = 2) (by omega) (by omega)) (by omega) (by omega)) ?_
  refine ok_b2 (P := fun τ => JL3 τ.2) (A_X12_visit hJ_3) (fun _ s_5 (hJ_6 : JL3 s_5) => ?_)
  exact law_next hx0 hx hL hJ_6
theorem T_law_872 {LN : Nat} {Lx : Nat → Int32} {x3 : Int32} {s : mG} (hx0 : 0 ≤ x3.toInt) (hx : x3.toInt + 6 ≤ (LN : Int)) (hL : LN ≤ 3072) (hJ : JL3 s) : ok (F_law_872 LN Lx x3 s) (LPo x3) := by
  unfold F_law_872
  refine ok_nn (ix_ok (r_add (rfl : x3.toInt = _) (by decide : (ci 1).toInt = 1) (by omega) (by omega)) (by omega) (by omega)) ?_
  refine ok_b2 (P := fun τ => JL3 τ.2) (A_X11_empty hJ) (fun _ s_2 (hJ_3 : JL3 s_2) => ?_)
  refine ok_nn (ix_ok (r_add (rfl : x3.toInt = _) (by decide : (ci 1).toInt = 1) (by omega) (by omega)) (by omega) (by omega)) ?_
  refine ok_b2 (P := fun τ => JL3 τ.2) (A_X12_empty hJ_3) (fun _ s_5 (hJ_6 : JL3 s_5) => ?_)
  exact law_next hx0 hx hL hJ_6
theorem T_law_895 {LN : Nat} {Lx : Nat → Int32} {x3 : Int32} {s : mG} (hx0 : 0 ≤ x3.toInt) (hx : x3.toInt + 6 ≤ (LN : Int)) (hL : LN ≤ 3072) (hJ : JL3 s) : ok (F_law_895 LN Lx x3 s) (LPo x3) := by
  unfold F_law_895
  refine ok_b1 (P := PT) (ok_mono (T_X11_thief hJ.1.1) (fun _ _ => trivial)) (fun _ _ => ?_)
  refine ok_b1 (P := PT) (ok_mono (T_X12_thief hJ.1.2.1) (fun _ _ => trivial)) (fun _ _ => ?_)
  exact law_next hx0 hx hL hJ
theorem T_law_908 {LN : Nat} {Lx : Nat → Int32} {x3 : Int32} {s : mG} (hx0 : 0 ≤ x3.toInt) (hx : x3.toInt + 6 ≤ (LN : Int)) (hL : LN ≤ 3072) (hJ : JL3 s) : ok (F_law_908 LN Lx x3 s) (LPo x3) := by
  unfold F_law_908
  refine ok_nn (ix_ok (r_add (rfl : x3.toInt = _) (by decide : (ci 1).toInt = 1) (by omega) (by omega)) (by omega) (by omega)) ?_
  refine ok_nn (ix_ok (r_add (rfl : x3.toInt = _) (by decide : (ci 2).toInt = 2) (by omega) (by omega)) (by omega) (by omega)) ?_
  refine ok_nn (ix_ok (r_add (rfl : x3.toInt = _) (by decide : (ci 3).toInt = 3) (by omega) (by omega)) (by omega) (by omega)) ?_
  refine ok_b2 (P := fun τ => JL3 τ.2) (A_X11_tagCost hJ) (fun _ s_2 (hJ_3 : JL3 s_2) => ?_)
  refine ok_nn (ix_ok (r_add (rfl : x3.toInt = _) (by decide : (ci 1).toInt = 1) (by omega) (by omega)) (by omega) (by omega)) ?_
  refine ok_nn (ix_ok (r_add (rfl : x3.toInt = _) (by decide : (ci 2).toInt = 2) (by omega) (by omega)) (by omega) (by omega)) ?_
  refine ok_nn (ix_ok (r_add (rfl : x3.toInt = _) (by decide : (ci 3).toInt = 3) (by omega) (by omega)) (by omega) (by omega)) ?_
  refine ok_b2 (P := fun τ => JL3 τ.2) (A_X12_tagCost hJ_3) (fun _ s_5 (hJ_6 : JL3 s_5) => ?_)
  exact law_next hx0 hx hL hJ_6
theorem T_law_951 {LN : Nat} {Lx : Nat → Int32} {x3 : Int32} {s : mG} (hx0 : 0 ≤ x3.toInt) (hx : x3.toInt + 6 ≤ (LN : Int)) (hL : LN ≤ 3072) (hJ : JL3 s) : ok (F_law_951 LN Lx x3 s) (LPo x3) := by
  unfold F_law_951
  refine ok_nn (ix_ok (r_add (rfl : x3.toInt = _) (by decide : (ci 1).toInt = 1) (by omega) (by omega)) (by omega) (by omega)) ?_
  refine ok_nn (ix_ok (r_add (rfl : x3.toInt = _) (by decide : (ci 2).toInt = 2) (by omega) (by omega)) (by omega) (by omega)) ?_
  refine ok_b1 (P := PT) (ok_mono (T_X11_saw hJ.1.1) (fun _ _ => trivial)) (fun _ _ => ?_)
  refine ok_nn (ix_ok (r_add (rfl : x3.toInt = _) (by decide : (ci 1).toInt = 1) (by omega) (by omega)) (by omega) (by omega)) ?_
  refine ok_nn (ix_ok (r_add (rfl : x3.toInt = _) (by decide : (ci 2).toInt = 2) (by omega) (by omega)) (by omega) (by omega)) ?_
  refine ok_b1 (P := PT) (ok_mono (T_X12_saw hJ.1.2.1) (fun _ _ => trivial)) (fun _ _ => ?_)
  exact law_next hx0 hx hL hJ
theorem T_law_984 {LN : Nat} {Lx : Nat → Int32} {x3 : Int32} {s : mG} (hx0 : 0 ≤ x3.toInt) (hx : x3.toInt + 6 ≤ (LN : Int)) (hL : LN ≤ 3072) (hJ : JL3 s) : ok (F_law_984 LN Lx x3 s) (LPo x3) := by
  unfold F_law_984
  refine ok_nn (ix_ok (r_add (rfl : x3.toInt = _) (by decide : (ci 1).toInt = 1) (by omega) (by omega)) (by omega) (by omega)) ?_
  refine ok_nn (ix_ok (r_add (rfl : x3.toInt = _) (by decide : (ci 2).toInt = 2) (by omega) (by omega)) (by omega) (by omega)) ?_
  refine ok_b1 (P := PT) (ok_mono (T_X11_by hJ.1.1) (fun _ _ => trivial)) (fun _ _ => ?_)
  refine ok_nn (ix_ok (r_add (rfl : x3.toInt = _) (by decide : (ci 1).toInt = 1) (by omega) (by omega)) (by omega) (by omega)) ?_
  refine ok_nn (ix_ok (r_add (rfl : x3.toInt = _) (by decide : (ci 2).toInt = 2) (by omega) (by omega)) (by omega) (by omega)) ?_
  refine ok_b1 (P := PT) (ok_mono (T_X12_by hJ.1.2.1) (fun _ _ => trivial)) (fun _ _ => ?_)
  exact law_next hx0 hx hL hJ
theorem T_law_1017 {LN : Nat} {Lx : Nat → Int32} {x3 : Int32} {s : mG} (hx0 : 0 ≤ x3.toInt) (hx : x3.toInt + 6 ≤ (LN : Int)) (hL : LN ≤ 3072) (hJ : JL3 s) : ok (F_law_1017 LN Lx x3 s) (LPo x3) := by
  unfold F_law_1017
  refine ok_nn (ix_ok (r_add (rfl : x3.toInt = _) (by decide : (ci 1).toInt = 1) (by omega) (by omega)) (by omega) (by omega)) ?_
  refine ok_nn (ix_ok (r_add (rfl : x3.toInt = _) (by decide : (ci 2).toInt = 2) (by omega) (by omega)) (by omega) (by omega)) ?_
  refine ok_nn (ix_ok (r_add (rfl : x3.toInt = _) (by decide : (ci 3).toInt = 3) (by omega) (by omega)) (by omega) (by omega)) ?_
  refine ok_b2 (P3_caller hJ) (fun v_1 s_2 q_3 => ?_)
  refine ok_nn (ix_ok (r_add (rfl : x3.toInt = _) (by decide : (ci 1).toInt = 1) (by omega) (by omega)) (by omega) (by omega)) ?_
  refine ok_nn (ix_ok (r_add (rfl : x3.toInt = _) (by decide : (ci 2).toInt = 2) (by omega) (by omega)) (by omega) (by omega)) ?_
  refine ok_nn (ix_ok (r_add (rfl : x3.toInt = _) (by decide : (ci 3).toInt = 3) (by omega) (by omega)) (by omega) (by omega)) ?_
  refine ok_b2 q_3 (fun v_4 s_5 q_6 => ?_)
  have hJ_7 : JL3 s_5 := q_6.1
  exact law_next hx0 hx hL hJ_7
theorem T_law_1060 {LN : Nat} {Lx : Nat → Int32} {x3 : Int32} {s : mG} (hx0 : 0 ≤ x3.toInt) (hx : x3.toInt + 6 ≤ (LN : Int)) (hL : LN ≤ 3072) (hJ : JL3 s) : ok (F_law_1060 LN Lx x3 s) (LPo x3) := by
  unfold F_law_1060
  refine ok_nn (ix_ok (r_add (rfl : x3.toInt = _) (by decide : (ci 1).toInt = 1) (by omega) (by omega)) (by omega) (by omega)) ?_
  refine ok_b2 (P := fun τ => JL3 τ.2) (A_X11_said hJ) (fun _ s_2 (hJ_3 : JL3 s_2) => ?_)
  refine ok_nn (ix_ok (r_add (rfl : x3.toInt = _) (by decide : (ci 1).toInt = 1) (by omega) (by omega)) (by omega) (by omega)) ?_
  refine ok_b2 (P := fun τ => JL3 τ.2) (A_X12_said hJ_3) (fun _ s_5 (hJ_6 : JL3 s_5) => ?_)
  exact law_next hx0 hx hL hJ_6
theorem T_law_1083 {LN : Nat} {Lx : Nat → Int32} {x3 : Int32} {s : mG} (hx0 : 0 ≤ x3.toInt) (hx : x3.toInt + 6 ≤ (LN : Int)) (hL : LN ≤ 3072) (hJ : JL3 s) : ok (F_law_1083 LN Lx x3 s) (LPo x3) := by
  unfold F_law_1083
  refine ok_nn (ix_ok (r_add (rfl : x3.toInt = _) (by decide : (ci 1).toInt = 1) (by omega) (by omega)) (by omega) (by omega)) ?_
  refine ok_nn (ix_ok (r_add (rfl : x3.toInt = _) (by decide : (ci 2).toInt = 2) (by omega) (by omega)) (by omega) (by omega)) ?_
  refine ok_b2 (P := fun τ => JL3 τ.2) (A_X11_looksAt hJ) (fun _ s_2 (hJ_3 : JL3 s_2) => ?_)
  refine ok_nn (ix_ok (r_add (rfl : x3.toInt = _) (by decide : (ci 1).toInt = 1) (by omega) (by omega)) (by omega) (by omega)) ?_
  refine ok_nn (ix_ok (r_add (rfl : x3.toInt = _) (by decide : (ci 2).toInt = 2) (by omega) (by omega)) (by omega) (by omega)) ?_
  refine ok_b2 (P := fun τ => JL3 τ.2) (A_X12_looksAt hJ_3) (fun _ s_5 (hJ_6 : JL3 s_5) => ?_)
  exact law_next hx0 hx hL hJ_6
theorem T_law_1116 {LN : Nat} {Lx : Nat → Int32} {x3 : Int32} {s : mG} (hx0 : 0 ≤ x3.toInt) (hx : x3.toInt + 6 ≤ (LN : Int)) (hL : LN ≤ 3072) (hJ : JL3 s) : ok (F_law_1116 LN Lx x3 s) (LPo x3) := by
  unfold F_law_1116
  refine ok_nn (ix_ok (r_add (rfl : x3.toInt = _) (by decide : (ci 1).toInt = 1) (by omega) (by omega)) (by omega) (by omega)) ?_
  refine ok_b2 (P := fun τ => JL3 τ.2) (A_X11_pair hJ) (fun _ s_2 (hJ_3 : JL3 s_2) => ?_)
  refine ok_nn (ix_ok (r_add (rfl : x3.toInt = _) (by decide : (ci 1).toInt = 1) (by omega) (by omega)) (by omega) (by omega)) ?_
  refine ok_b2 (P := fun τ => JL3 τ.2) (A_X12_pair hJ_3) (fun _ s_5 (hJ_6 : JL3 s_5) => ?_)
  exact law_next hx0 hx hL hJ_6
theorem T_law_1139 {LN : Nat} {Lx : Nat → Int32} {x3 : Int32} {s : mG} (hx0 : 0 ≤ x3.toInt) (hx : x3.toInt + 6 ≤ (LN : Int)) (hL : LN ≤ 3072) (hJ : JL3 s) : ok (F_law_1139 LN Lx x3 s) (LPo x3) := by
  unfold F_law_1139
  refine ok_nn (ix_ok (r_add (rfl : x3.toInt = _) (by decide : (ci 1).toInt = 1) (by omega) (by omega)) (by omega) (by omega)) ?_
  refine ok_b1 (P := PT) (ok_mono (T_X11_ring hJ.1.1) (fun _ _ => trivial)) (fun _ _ => ?_)
  refine ok_nn (ix_ok (r_add (rfl : x3.toInt = _) (by decide : (ci 1).toInt = 1) (by omega) (by omega)) (by omega) (by omega)) ?_
  refine ok_b1 (P := PT) (ok_mono (T_X12_ring hJ.1.2.1) (fun _ _ => trivial)) (fun _ _ => ?_)
  exact law_next hx0 hx hL hJ
theorem T_law_1162 {LN : Nat} {Lx : Nat → Int32} {x3 : Int32} {s : mG} (hx0 : 0 ≤ x3.toInt) (hx : x3.toInt + 6 ≤ (LN : Int)) (hL : LN ≤ 3072) (hJ : JL3 s) : ok (F_law_1162 LN Lx x3 s) (LPo x3) := by
  unfold F_law_1162
  refine ok_nn (ix_ok (r_add (rfl : x3.toInt = _) (by decide : (ci 1).toInt = 1) (by omega) (by omega)) (by omega) (by omega)) ?_
  refine ok_b2 (P := fun τ => JL3 τ.2) (A_X11_busy hJ) (fun _ s_2 (hJ_3 : JL3 s_2) => ?_)
  refine ok_nn (ix_ok (r_add (rfl : x3.toInt = _) (by decide : (ci 1).toInt = 1) (by omega) (by omega)) (by omega) (by omega)) ?_
  refine ok_b2 (P := fun τ => JL3 τ.2) (A_X12_busy hJ_3) (fun _ s_5 (hJ_6 : JL3 s_5) => ?_)
  exact law_next hx0 hx hL hJ_6
theorem T_law_1185 {LN : Nat} {Lx : Nat → Int32} {x3 : Int32} {s : mG} (hx0 : 0 ≤ x3.toInt) (hx : x3.toInt + 6 ≤ (LN : Int)) (hL : LN ≤ 3072) (hJ : JL3 s) : ok (F_law_1185 LN Lx x3 s) (LPo x3) := by
  unfold F_law_1185
  refine ok_b2 (P := fun τ => JL3 τ.2) (A_X11_expect hJ) (fun _ s_2 (hJ_3 : JL3 s_2) => ?_)
  refine ok_b2 (P := fun τ => JL3 τ.2) (A_X12_expect hJ_3) (fun _ s_5 (hJ_6 : JL3 s_5) => ?_)
  exact law_next hx0 hx hL hJ_6
theorem T_law_1198 {LN : Nat} {Lx : Nat → Int32} {x3 : Int32} {s : mG} (hx0 : 0 ≤ x3.toInt) (hx : x3.toInt + 6 ≤ (LN : Int)) (hL : LN ≤ 3072) (hJ : JL3 s) : ok (F_law_1198 LN Lx x3 s) (LPo x3) := by
  unfold F_law_1198
  refine ok_nn (ix_ok (r_add (rfl : x3.toInt = _) (by decide : (ci 1).toInt = 1) (by omega) (by omega)) (by omega) (by omega)) ?_
  refine ok_b2 (P := fun τ => JL3 τ.2) (A_X11_lack hJ) (fun _ s_2 (hJ_3 : JL3 s_2) => ?_)
  refine ok_nn (ix_ok (r_add (rfl : x3.toInt = _) (by decide : (ci 1).toInt = 1) (by omega) (by omega)) (by omega) (by omega)) ?_
  refine ok_b2 (P := fun τ => JL3 τ.2) (A_X12_lack hJ_3) (fun _ s_5 (hJ_6 : JL3 s_5) => ?_)
  exact law_next hx0 hx hL hJ_6
theorem T_law_1221 {LN : Nat} {Lx : Nat → Int32} {x3 : Int32} {s : mG} (hx0 : 0 ≤ x3.toInt) (hx : x3.toInt + 6 ≤ (LN : Int)) (hL : LN ≤ 3072) (hJ : JL3 s) : ok (F_law_1221 LN Lx x3 s) (LPo x3) := by
  unfold F_law_1221
  refine ok_nn (ix_ok (r_add (rfl : x3.toInt = _) (by decide : (ci 1).toInt = 1) (by omega) (by omega)) (by omega) (by omega)) ?_
  refine ok_b2 (P := fun τ => JL3 τ.2) (A_X11_knocks hJ) (fun _ s_2 (hJ_3 : JL3 s_2) => ?_)
  refine ok_nn (ix_ok (r_add (rfl : x3.toInt = _) (by decide : (ci 1).toInt = 1) (by omega) (by omega)) (by omega) (by omega)) ?_
  refine ok_b2 (P := fun τ => JL3 τ.2) (A_X12_knocks hJ_3) (fun _ s_5 (hJ_6 : JL3 s_5) => ?_)
  exact law_next hx0 hx hL hJ_6
theorem T_law_1244 {LN : Nat} {Lx : Nat → Int32} {x3 : Int32} {s : mG} (hx0 : 0 ≤ x3.toInt) (hx : x3.toInt + 6 ≤ (LN : Int)) (hL : LN ≤ 3072) (hJ : JL3 s) : ok (F_law_1244 LN Lx x3 s) (LPo x3) := by
  unfold F_law_1244
  refine ok_nn (ix_ok (r_add (rfl : x3.toInt = _) (by decide : (ci 1).toInt = 1) (by omega) (by omega)) (by omega) (by omega)) ?_
  refine ok_nn (ix_ok (r_add (rfl : x3.toInt = _) (by decide : (ci 2).toInt = 2) (by omega) (by omega)) (by omega) (by omega)) ?_
  refine ok_b2 (P := fun τ => JL3 τ.2) (A_X11_tag hJ) (fun _ s_2 (hJ_3 : JL3 s_2) => ?_)
  refine ok_nn (ix_ok (r_add (rfl : x3.toInt = _) (by decide : (ci 1).toInt = 1) (by omega) (by omega)) (by omega) (by omega)) ?_
  refine ok_nn (ix_ok (r_add (rfl : x3.toInt = _) (by decide : (ci 2).toInt = 2) (by omega) (by omega)) (by omega) (by omega)) ?_
  refine ok_b2 (P := fun τ => JL3 τ.2) (A_X12_tag hJ_3) (fun _ s_5 (hJ_6 : JL3 s_5) => ?_)
  exact law_next hx0 hx hL hJ_6
theorem T_law_1277 {LN : Nat} {Lx : Nat → Int32} {x3 : Int32} {s : mG} (hx0 : 0 ≤ x3.toInt) (hx : x3.toInt + 6 ≤ (LN : Int)) (hL : LN ≤ 3072) (hJ : JL3 s) : ok (F_law_1277 LN Lx x3 s) (LPo x3) := by
  unfold F_law_1277
  refine ok_nn (ix_ok (r_add (rfl : x3.toInt = _) (by decide : (ci 1).toInt = 1) (by omega) (by omega)) (by omega) (by omega)) ?_
  refine ok_nn (ix_ok (r_add (rfl : x3.toInt = _) (by decide : (ci 2).toInt = 2) (by omega) (by omega)) (by omega) (by omega)) ?_
  refine ok_nn (ix_ok (r_add (rfl : x3.toInt = _) (by decide : (ci 3).toInt = 3) (by omega) (by omega)) (by omega) (by omega)) ?_
  refine ok_nn (ix_ok (r_add (rfl : x3.toInt = _) (by decide : (ci 4).toInt = 4) (by omega) (by omega)) (by omega) (by omega)) ?_
  refine ok_b2 (P3_room hJ) (fun v_1 s_2 q_3 => ?_)
  refine ok_nn (ix_ok (r_add (rfl : x3.toInt = _) (by decide : (ci 1).toInt = 1) (by omega) (by omega)) (by omega) (by omega)) ?_
  refine ok_nn (ix_ok (r_add (rfl : x3.toInt = _) (by decide : (ci 2).toInt = 2) (by omega) (by omega)) (by omega) (by omega)) ?_
  refine ok_nn (ix_ok (r_add (rfl : x3.toInt = _) (by decide : (ci 3).toInt = 3) (by omega) (by omega)) (by omega) (by omega)) ?_
  refine ok_nn (ix_ok (r_add (rfl : x3.toInt = _) (by decide : (ci 4).toInt = 4) (by omega) (by omega)) (by omega) (by omega)) ?_
  refine ok_b2 q_3 (fun v_4 s_5 q_6 => ?_)
  have hJ_7 : JL3 s_5 := q_6.1
  exact law_next hx0 hx hL hJ_7
theorem T_law_1330 {LN : Nat} {Lx : Nat → Int32} {x3 : Int32} {s : mG} (hx0 : 0 ≤ x3.toInt) (hx : x3.toInt + 6 ≤ (LN : Int)) (hL : LN ≤ 3072) (hJ : JL3 s) : ok (F_law_1330 LN Lx x3 s) (LPo x3) := by
  unfold F_law_1330
  refine ok_nn (ix_ok (r_add (rfl : x3.toInt = _) (by decide : (ci 1).toInt = 1) (by omega) (by omega)) (by omega) (by omega)) ?_
  refine ok_b1 (A3_X11_done hJ) (fun v_1 hv_2 => ?_)
  refine ok_nn (ix_ok (r_add (rfl : x3.toInt = _) (by decide : (ci 1).toInt = 1) (by omega) (by omega)) (by omega) (by omega)) ?_
  refine ok_b1 (A3_X12_done hJ) (fun v_3 hv_4 => ?_)
  have hE := hv_2.trans hv_4.symm
  refine ok_ite (fun _ => ?_) (fun c => absurd hE c)
  exact law_next hx0 hx hL hJ
theorem T_law_1353 {LN : Nat} {Lx : Nat → Int32} {x3 : Int32} {s : mG} (hx0 : 0 ≤ x3.toInt) (hx : x3.toInt + 6 ≤ (LN : Int)) (hL : LN ≤ 3072) (hJ : JL3 s) : ok (F_law_1353 LN Lx x3 s) (LPo x3) := by
  unfold F_law_1353
  refine ok_nn (ix_ok (r_add (rfl : x3.toInt = _) (by decide : (ci 1).toInt = 1) (by omega) (by omega)) (by omega) (by omega)) ?_
  refine ok_b1 (P := PT) (ok_mono (T_X11_swapped hJ.1.1) (fun _ _ => trivial)) (fun _ _ => ?_)
  refine ok_nn (ix_ok (r_add (rfl : x3.toInt = _) (by decide : (ci 1).toInt = 1) (by omega) (by omega)) (by omega) (by omega)) ?_
  refine ok_b1 (P := PT) (ok_mono (T_X12_swapped hJ.1.2.1) (fun _ _ => trivial)) (fun _ _ => ?_)
  exact law_next hx0 hx hL hJ
theorem T_law_1376 {LN : Nat} {Lx : Nat → Int32} {x3 : Int32} {s : mG} (hx0 : 0 ≤ x3.toInt) (hx : x3.toInt + 6 ≤ (LN : Int)) (hL : LN ≤ 3072) (hJ : JL3 s) : ok (F_law_1376 LN Lx x3 s) (LPo x3) := by
  unfold F_law_1376
  refine ok_nn (ix_ok (r_add (rfl : x3.toInt = _) (by decide : (ci 1).toInt = 1) (by omega) (by omega)) (by omega) (by omega)) ?_
  refine ok_nn (ix_ok (r_add (rfl : x3.toInt = _) (by decide : (ci 2).toInt = 2) (by omega) (by omega)) (by omega) (by omega)) ?_
  refine ok_b2 (P := fun τ => JL3 τ.2) (A_X11_fire hJ) (fun _ s_2 (hJ_3 : JL3 s_2) => ?_)
  refine ok_nn (ix_ok (r_add (rfl : x3.toInt = _) (by decide : (ci 1).toInt = 1) (by omega) (by omega)) (by omega) (by omega)) ?_
  refine ok_nn (ix_ok (r_add (rfl : x3.toInt = _) (by decide : (ci 2).toInt = 2) (by omega) (by omega)) (by omega) (by omega)) ?_
  refine ok_b2 (P := fun τ => JL3 τ.2) (A_X12_fire hJ_3) (fun _ s_5 (hJ_6 : JL3 s_5) => ?_)
  exact law_next hx0 hx hL hJ_6
theorem T_law_1409 {LN : Nat} {Lx : Nat → Int32} {x3 : Int32} {s : mG} (hx0 : 0 ≤ x3.toInt) (hx : x3.toInt + 6 ≤ (LN : Int)) (hL : LN ≤ 3072) (hJ : JL3 s) : ok (F_law_1409 LN Lx x3 s) (LPo x3) := by
  unfold F_law_1409
  refine ok_nn (ix_ok (r_add (rfl : x3.toInt = _) (by decide : (ci 1).toInt = 1) (by omega) (by omega)) (by omega) (by omega)) ?_
  refine ok_nn (ix_ok (r_add (rfl : x3.toInt = _) (by decide : (ci 2).toInt = 2) (by omega) (by omega)) (by omega) (by omega)) ?_
  refine ok_b2 (P := fun τ => JL3 τ.2) (A_X11_stands hJ) (fun _ s_2 (hJ_3 : JL3 s_2) => ?_)
  refine ok_nn (ix_ok (r_add (rfl : x3.toInt = _) (by decide : (ci 1).toInt = 1) (by omega) (by omega)) (by omega) (by omega)) ?_
  refine ok_nn (ix_ok (r_add (rfl : x3.toInt = _) (by decide : (ci 2).toInt = 2) (by omega) (by omega)) (by omega) (by omega)) ?_
  refine ok_b2 (P := fun τ => JL3 τ.2) (A_X12_stands hJ_3) (fun _ s_5 (hJ_6 : JL3 s_5) => ?_)
  exact law_next hx0 hx hL hJ_6
theorem T_law_1442 {LN : Nat} {Lx : Nat → Int32} {x3 : Int32} {s : mG} (hx0 : 0 ≤ x3.toInt) (hx : x3.toInt + 6 ≤ (LN : Int)) (hL : LN ≤ 3072) (hJ : JL3 s) : ok (F_law_1442 LN Lx x3 s) (LPo x3) := by
  unfold F_law_1442
  refine ok_nn (ix_ok (r_add (rfl : x3.toInt = _) (by decide : (ci 1).toInt = 1) (by omega) (by omega)) (by omega) (by omega)) ?_
  refine ok_b1 (P := PT) (ok_mono (T_X11_tellsOn hJ.1.1) (fun _ _ => trivial)) (fun _ _ => ?_)
  refine ok_nn (ix_ok (r_add (rfl : x3.toInt = _) (by decide : (ci 1).toInt = 1) (by omega) (by omega)) (by omega) (by omega)) ?_
  refine ok_b1 (P := PT) (ok_mono (T_X12_tellsOn hJ.1.2.1) (fun _ _ => trivial)) (fun _ _ => ?_)
  exact law_next hx0 hx hL hJ
theorem T_law_1465 {LN : Nat} {Lx : Nat → Int32} {x3 : Int32} {s : mG} (hx0 : 0 ≤ x3.toInt) (hx : x3.toInt + 6 ≤ (LN : Int)) (hL : LN ≤ 3072) (hJ : JL3 s) : ok (F_law_1465 LN Lx x3 s) (LPo x3) := by
  unfold F_law_1465
  refine ok_b2 (P := fun τ => JL3 τ.2) (A_X11_carries hJ) (fun _ s_2 (hJ_3 : JL3 s_2) => ?_)
  refine ok_b2 (P := fun τ => JL3 τ.2) (A_X12_carries hJ_3) (fun _ s_5 (hJ_6 : JL3 s_5) => ?_)
  exact law_next hx0 hx hL hJ_6
theorem T_law_1478 {LN : Nat} {Lx : Nat → Int32} {x3 : Int32} {s : mG} (hx0 : 0 ≤ x3.toInt) (hx : x3.toInt + 6 ≤ (LN : Int)) (hL : LN ≤ 3072) (hJ : JL3 s) : ok (F_law_1478 LN Lx x3 s) (LPo x3) := by
  unfold F_law_1478
  refine ok_nn (ix_ok (r_add (rfl : x3.toInt = _) (by decide : (ci 1).toInt = 1) (by omega) (by omega)) (by omega) (by omega)) ?_
  refine ok_nn (ix_ok (r_add (rfl : x3.toInt = _) (by decide : (ci 2).toInt = 2) (by omega) (by omega)) (by omega) (by omega)) ?_
  refine ok_b2 (P := fun τ => JL3 τ.2) (A_X11_away hJ) (fun _ s_2 (hJ_3 : JL3 s_2) => ?_)
  refine ok_nn (ix_ok (r_add (rfl : x3.toInt = _) (by decide : (ci 1).toInt = 1) (by omega) (by omega)) (by omega) (by omega)) ?_
  refine ok_nn (ix_ok (r_add (rfl : x3.toInt = _) (by decide : (ci 2).toInt = 2) (by omega) (by omega)) (by omega) (by omega)) ?_
  refine ok_b2 (P := fun τ => JL3 τ.2) (A_X12_away hJ_3) (fun _ s_5 (hJ_6 : JL3 s_5) => ?_)
  exact law_next hx0 hx hL hJ_6
theorem T_law_1511 {LN : Nat} {Lx : Nat → Int32} {x3 : Int32} {s : mG} (hx0 : 0 ≤ x3.toInt) (hx : x3.toInt + 6 ≤ (LN : Int)) (hL : LN ≤ 3072) (hJ : JL3 s) : ok (F_law_1511 LN Lx x3 s) (LPo x3) := by
  unfold F_law_1511
  refine ok_b2 (P := fun τ => JL3 τ.2) (A_X11_undo hJ) (fun _ s_2 (hJ_3 : JL3 s_2) => ?_)
  refine ok_b2 (P := fun τ => JL3 τ.2) (A_X12_undo hJ_3) (fun _ s_5 (hJ_6 : JL3 s_5) => ?_)
  exact law_next hx0 hx hL hJ_6
theorem T_law_1524 {LN : Nat} {Lx : Nat → Int32} {x3 : Int32} {s : mG} (hx0 : 0 ≤ x3.toInt) (hx : x3.toInt + 6 ≤ (LN : Int)) (hL : LN ≤ 3072) (hJ : JL3 s) : ok (F_law_1524 LN Lx x3 s) (LPo x3) := by
  unfold F_law_1524
  refine ok_nn (ix_ok (r_add (rfl : x3.toInt = _) (by decide : (ci 1).toInt = 1) (by omega) (by omega)) (by omega) (by omega)) ?_
  refine ok_ite (fun c_1 => ?_) (fun c_1 => ?_)
  · unfold F_law_1538
    refine ok_b2 (P3_image (by first | exact Or.inl rfl | exact Or.inr rfl) hJ) (fun v_2 s_3 q_4 => ?_)
    refine ok_nn (ix_ok (r_add (rfl : x3.toInt = _) (by decide : (ci 1).toInt = 1) (by omega) (by omega)) (by omega) (by omega)) ?_
    refine ok_ite (fun _ => ?_) (fun c => absurd c_1 c)
    unfold F_law_1556
    refine ok_b2 q_4 (fun v_5 s_6 q_7 => ?_)
    have hJ_8 : JL3 s_6 := q_7.1
    exact law_next hx0 hx hL hJ_8
  · unfold F_law_1538
    refine ok_b2 (P3_image (by first | exact Or.inl rfl | exact Or.inr rfl) hJ) (fun v_9 s_10 q_11 => ?_)
    refine ok_nn (ix_ok (r_add (rfl : x3.toInt = _) (by decide : (ci 1).toInt = 1) (by omega) (by omega)) (by omega) (by omega)) ?_
    refine ok_ite (fun c => absurd c c_1) (fun _ => ?_)
    unfold F_law_1556
    refine ok_b2 q_11 (fun v_12 s_13 q_14 => ?_)
    have hJ_15 : JL3 s_13 := q_14.1
    exact law_next hx0 hx hL hJ_15
theorem T_law_1563 {LN : Nat} {Lx : Nat → Int32} {x3 : Int32} {s : mG} (hx0 : 0 ≤ x3.toInt) (hx : x3.toInt + 6 ≤ (LN : Int)) (hL : LN ≤ 3072) (hJ : JL3 s) : ok (F_law_1563 LN Lx x3 s) (LPo x3) := by
  unfold F_law_1563
  refine ok_nn (ix_ok (r_add (rfl : x3.toInt = _) (by decide : (ci 1).toInt = 1) (by omega) (by omega)) (by omega) (by omega)) ?_
  refine ok_b1 (P := PT) (ok_mono (T_X11_look hJ.1.1) (fun _ _ => trivial)) (fun _ _ => ?_)
  refine ok_nn (ix_ok (r_add (rfl : x3.toInt = _) (by decide : (ci 1).toInt = 1) (by omega) (by omega)) (by omega) (by omega)) ?_
  refine ok_b1 (P := PT) (ok_mono (T_X12_look hJ.1.2.1) (fun _ _ => trivial)) (fun _ _ => ?_)
  exact law_next hx0 hx hL hJ
/-! the start -/
def s0_l : List Nat := [2, 112, 115, 116, 117, 118, 1049, 119, 120, 121, 122, 123, 124, 125, 126, 127, 128, 129, 130]
theorem s0_c : s0_l.all (fun k => decide (s0.1 89 k = 0)) = true := by decide +kernel
theorem s0_at {k : Nat} (h : k ∈ s0_l) : s0.1 89 k = 0 := of_decide_eq_true (List.all_eq_true.mp s0_c k h)
theorem s0_88 : s0.1 88 3 = 0 ∧ s0.1 88 4 = 0 ∧ s0.1 88 15 = 0 ∧ s0.1 55 9 = 0 := by decide +kernel
theorem s0_ic : s0.1 2 0 = ci 12 ∧ s0.1 2 3 = 0 := by decide +kernel
theorem s0_t2 : s0.1 2 0 = cn 12 ∧ s0.1 2 1 = cn 11 ∧ s0.1 2 3 = 0 := by decide +kernel
theorem s0_t14 : s0.1 14 0 = cn 8 ∧ s0.1 14 1 = cn 4 ∧ s0.1 14 3 = 0 := by decide +kernel
theorem s0_t16 : s0.1 16 0 = cn 8 ∧ s0.1 16 1 = cn 3 ∧ s0.1 16 3 = 0 := by decide +kernel
theorem s0_t19 : s0.1 19 0 = cn 12 ∧ s0.1 19 1 = cn 11 ∧ s0.1 19 3 = 0 := by decide +kernel
theorem s0_t31 : s0.1 31 0 = cn 8 ∧ s0.1 31 1 = cn 4 ∧ s0.1 31 3 = 0 := by decide +kernel
theorem s0_t33 : s0.1 33 0 = cn 8 ∧ s0.1 33 1 = cn 3 ∧ s0.1 33 3 = 0 := by decide +kernel
theorem s0_tm : ∀ i, i < 6 → s0.1 (37 + 3 * i + 1) 0 = cn 12 ∧ s0.1 (37 + 3 * i + 1) 1 = cn 11 ∧ s0.1 (37 + 3 * i + 1) 3 = 0 := by decide +kernel
theorem s0_35 : s0.1 35 1 = 0 ∧ s0.1 35 2 = 0 := by decide +kernel
theorem s0_02 : s0.1 0 2 = 0 := by decide +kernel
theorem cn_0 : cn 0 = 0 := by decide
theorem TS_0 {t W M : Nat} {s : mG} (h : s.1 t 0 = cn M ∧ s.1 t 1 = cn W ∧ s.1 t 3 = 0) : TS t W M s := ⟨h.1, h.2.1, 0, Nat.zero_le _, h.2.2.trans cn_0.symm⟩
theorem C1_s0 : C1 s0 := ⟨⟨TS_0 s0_t2, TS_0 s0_t14, TS_0 s0_t16⟩, ⟨TS_0 s0_t19, TS_0 s0_t31, TS_0 s0_t33⟩, fun i hi => TS_0 (s0_tm i hi), 0, 0, by decide, by decide, s0_35.1.trans cn_0.symm, s0_35.2.trans cn_0.symm, fun i _ hl => absurd hl (by omega)⟩
theorem JL_s0 : JL s0 := by
  obtain ⟨e3, e4, e15, e9⟩ := s0_88
  have z := t_zero
  have f : ∀ k, k < 12 → s0.1 89 (119 + k) = 0 := by
    intro k hk
    have hm : 119 + k ∈ s0_l := by
      have : k = 0 ∨ k = 1 ∨ k = 2 ∨ k = 3 ∨ k = 4 ∨ k = 5 ∨ k = 6 ∨ k = 7 ∨ k = 8 ∨ k = 9 ∨ k = 10 ∨ k = 11 := by omega
      rcases this with e | e | e | e | e | e | e | e | e | e | e | e <;> subst e <;> decide
    exact s0_at hm
  have c112 : s0.1 89 112 = 0 := s0_at (by decide)
  have c115 : s0.1 89 115 = 0 := s0_at (by decide)
  have c116 : s0.1 89 116 = 0 := s0_at (by decide)
  have c117 : s0.1 89 117 = 0 := s0_at (by decide)
  have c118 : s0.1 89 118 = 0 := s0_at (by decide)
  have c1049 : s0.1 89 1049 = 0 := s0_at (by decide)
  have c2 : s0.1 89 2 = 0 := s0_at (by decide)
  refine ⟨⟨s0_ic.1, ?_⟩, ⟨⟨?_, ?_, ?_, ?_, ?_, ?_, fun k hk => ?_, fun k hk hl => ?_, fun k hk hl => ?_, fun k hk hl => ?_, fun k hk hl => ?_⟩, ⟨?_, fun a ha hl => ?_, fun a b ha hb hl => ?_⟩, fun h => absurd e4 h, ?_, fun j hj hl => ?_, ?_⟩, C1_s0, ⟨⟨s0_ic.2.trans c112.symm, s0_t14.2.2.trans c118.symm, s0_t16.2.2.trans c1049.symm⟩, Or.inl e4, s0_02.trans e4.symm, fun h => absurd e4 h⟩⟩
  · rw [s0_ic.2, Int32.le_iff_toInt_le, z]; decide
  · rw [c112, z]; omega
  · rw [c115, z]; omega
  · rw [c116, z]; omega
  · rw [c117, z]; omega
  · rw [c118, z]; omega
  · rw [c1049, z]; omega
  · rw [f k hk, z]; omega
  · rw [c115, z] at hl; omega
  · rw [c118, z] at hl; omega
  · rw [c1049, z] at hl; omega
  · rw [c117, z] at hl; omega
  · rw [c2, z]; omega
  · rw [c112, z] at hl; omega
  · rw [c112, z] at hl; omega
  · rw [e3, z]; omega
  · rw [e3, z] at hl; omega
  · rw [e15, z]; omega
theorem JL3_s0 : JL3 s0 := ⟨JL_s0, RR_s0⟩
theorem T_law_B18 {LN : Nat} {Lx : Nat → Int32} {x3 : Int32} {s : mG} (hx0 : 0 ≤ x3.toInt) (hx3 : x3.toInt ≤ 4000) (hL : LN ≤ 3072) (hJ : JL3 s) : ok (F_law_B18 LN Lx x3 s) (LPo x3) := by
  unfold F_law_B18
  refine ok_ite (fun _ => ok_some (lp_inr (show ci 1 = 1 by decide))) (fun c => ?_)
  have hx : x3.toInt + 6 ≤ (LN : Int) := by
    have := r_nlt (r_sub (t_cn (n := LN) (by omega)) (by decide : (c8 6).toInt = 6) (by omega) (by omega)) (rfl : x3.toInt = _) c
    omega
  clear c
  refine ok_nn (ix_ok (rfl : x3.toInt = _) (by omega) (by omega)) ?_
  refine ok_ite (fun _ => T_law_232 hx0 hx hL hJ) (fun _ => ?_)
  refine ok_ite (fun _ => T_law_255 hx0 hx hL hJ) (fun _ => ?_)
  refine ok_ite (fun _ => T_law_288 hx0 hx hL hJ) (fun _ => ?_)
  refine ok_ite (fun _ => T_law_331 hx0 hx hL hJ) (fun _ => ?_)
  refine ok_ite (fun _ => T_law_364 hx0 hx hL hJ) (fun _ => ?_)
  refine ok_ite (fun _ => T_law_407 hx0 hx hL hJ) (fun _ => ?_)
  refine ok_ite (fun _ => T_law_430 hx0 hx hL hJ) (fun _ => ?_)
  refine ok_ite (fun _ => T_law_493 hx0 hx hL hJ) (fun _ => ?_)
  refine ok_ite (fun _ => T_law_516 hx0 hx hL hJ) (fun _ => ?_)
  refine ok_ite (fun _ => T_law_539 hx0 hx hL hJ) (fun _ => ?_)
  refine ok_ite (fun _ => T_law_562 hx0 hx hL hJ) (fun _ => ?_)
  refine ok_ite (fun _ => T_law_595 hx0 hx hL hJ) (fun _ => ?_)
  refine ok_ite (fun _ => T_law_618 hx0 hx hL hJ) (fun _ => ?_)
  refine ok_ite (fun _ => T_law_651 hx0 hx hL hJ) (fun _ => ?_)
  refine ok_ite (fun _ => T_law_684 hx0 hx hL hJ) (fun _ => ?_)
  refine ok_ite (fun _ => T_law_707 hx0 hx hL hJ) (fun _ => ?_)
  refine ok_ite (fun _ => T_law_750 hx0 hx hL hJ) (fun _ => ?_)
  refine ok_ite (fun _ => T_law_773 hx0 hx hL hJ) (fun _ => ?_)
  refine ok_ite (fun _ => T_law_806 hx0 hx hL hJ) (fun _ => ?_)
  refine ok_ite (fun _ => T_law_839 hx0 hx hL hJ) (fun _ => ?_)
  refine ok_ite (fun _ => T_law_872 hx0 hx hL hJ) (fun _ => ?_)
  refine ok_ite (fun _ => T_law_895 hx0 hx hL hJ) (fun _ => ?_)
  refine ok_ite (fun _ => T_law_908 hx0 hx hL hJ) (fun _ => ?_)
  refine ok_ite (fun _ => T_law_951 hx0 hx hL hJ) (fun _ => ?_)
  refine ok_ite (fun _ => T_law_984 hx0 hx hL hJ) (fun _ => ?_)
  refine ok_ite (fun _ => T_law_1017 hx0 hx hL hJ) (fun _ => ?_)
  refine ok_ite (fun _ => T_law_1060 hx0 hx hL hJ) (fun _ => ?_)
  refine ok_ite (fun _ => T_law_1083 hx0 hx hL hJ) (fun _ => ?_)
  refine ok_ite (fun _ => T_law_1116 hx0 hx hL hJ) (fun _ => ?_)
  refine ok_ite (fun _ => T_law_1139 hx0 hx hL hJ) (fun _ => ?_)
  refine ok_ite (fun _ => T_law_1162 hx0 hx hL hJ) (fun _ => ?_)
  refine ok_ite (fun _ => T_law_1185 hx0 hx hL hJ) (fun _ => ?_)
  refine ok_ite (fun _ => T_law_1198 hx0 hx hL hJ) (fun _ => ?_)
  refine ok_ite (fun _ => T_law_1221 hx0 hx hL hJ) (fun _ => ?_)
  refine ok_ite (fun _ => T_law_1244 hx0 hx hL hJ) (fun _ => ?_)
  refine ok_ite (fun _ => T_law_1277 hx0 hx hL hJ) (fun _ => ?_)
  refine ok_ite (fun _ => T_law_1330 hx0 hx hL hJ) (fun _ => ?_)
  refine ok_ite (fun _ => T_law_1353 hx0 hx hL hJ) (fun _ => ?_)
  refine ok_ite (fun _ => T_law_1376 hx0 hx hL hJ) (fun _ => ?_)
  refine ok_ite (fun _ => T_law_1409 hx0 hx hL hJ) (fun _ => ?_)
  refine ok_ite (fun _ => T_law_1442 hx0 hx hL hJ) (fun _ => ?_)
  refine ok_ite (fun _ => T_law_1465 hx0 hx hL hJ) (fun _ => ?_)
  refine ok_ite (fun _ => T_law_1478 hx0 hx hL hJ) (fun _ => ?_)
  refine ok_ite (fun _ => T_law_1511 hx0 hx hL hJ) (fun _ => ?_)
  refine ok_ite (fun _ => T_law_1524 hx0 hx hL hJ) (fun _ => ?_)
  refine ok_ite (fun _ => T_law_1563 hx0 hx hL hJ) (fun _ => ?_)
  exact law_next hx0 hx hL hJ
theorem F_law_ok {L : Nat} {xs : Nat → Int32} {s : mG} (hL : L ≤ 3072) (hJ : JL3 s) : ok (F_law L xs s) (fun τ => τ.1 = 1) := by
  unfold F_law F_law_L18
  refine ok_whl (fun v => JL3 v.2 ∧ 0 ≤ v.1.toInt ∧ v.1.toInt ≤ 4000) (fun v => mUp v.1) ⟨hJ, show 0 ≤ (ci 0).toInt by decide, show (ci 0).toInt ≤ 4000 by decide⟩ (fun v hv => ?_)
  obtain ⟨x3, s⟩ := v
  obtain ⟨q1, q2, q3⟩ := hv
  exact T_law_B18 q2 q3 hL q1
theorem ok_one {α : Type} {o : Option (Int32 × α)} (h : ok o (fun τ => τ.1 = 1)) : ∃ s', o = some (1, s') := by
  obtain ⟨⟨v, s'⟩, h1, h2⟩ := h
  have h2 : v = 1 := h2
  exact ⟨s', by rw [h1, h2]⟩
theorem F_law_total (L : Nat) (xs : Nat → Int32) (hL : L ≤ 3072) : ∃ s', F_law L xs s0 = some (1, s') := ok_one (F_law_ok hL JL3_s0)
end
