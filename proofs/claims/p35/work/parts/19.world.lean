/-! THE SMALL MACHINE'S HEAP AND THE REAL ONE -/
/-- where a cell's number lies: the world's cells one behind the other from base on; the script; the static row; the Strings, their bytes -/
def m_ad (base b tU : Nat) (adK adV : Nat → Nat) (j : Nat) : Nat := if j < 1000000 then base + j else if j = 1000000 then b else if j = 1000001 then tU else if j < 1000200 then adK (j - 1000100) else adV (j - 1000200)
def m_v (ad : Nat → Nat) (vF : Value) : Value → Value
  | .ref j => .ref (ad j)
  | .retAddr _ => vF
  | v => v
def m_fv (ad : Nat → Nat) (di : Nat → Int32) (li : Nat → Int64) (k : Nat) : Value → Value
  | .int _ => .int (di k)
  | .long _ => .long (li k)
  | .ref j => .ref (ad j)
  | w => w
def m_fs (ad : Nat → Nat) (di : Nat → Int32) (li : Nat → Int64) : Nat → List Value → List Value
  | _, [] => []
  | k, v :: r => m_fv ad di li k v :: m_fs ad di li (k + 1) r
theorem m_fs_get (ad : Nat → Nat) (di : Nat → Int32) (li : Nat → Int64) : ∀ (fs : List Value) (k j : Nat), (m_fs ad di li k fs)[j]? = (fs[j]?).map (m_fv ad di li (k + j)) := by
  intro fs
  induction fs with
  | nil => intro k j; simp [m_fs]
  | cons v r ih =>
    intro k j
    cases j with
    | zero => simp [m_fs]
    | succ j => simp only [m_fs, List.getElem?_cons_succ]; rw [ih, show k + 1 + j = k + (j + 1) by omega]
theorem m_fs_len (ad : Nat → Nat) (di : Nat → Int32) (li : Nat → Int64) : ∀ (fs : List Value) (k : Nat), (m_fs ad di li k fs).length = fs.length := by
  intro fs
  induction fs with
  | nil => intro k; simp [m_fs]
  | cons v r ih => intro k; simp [m_fs, ih]
def m_cell (dA : Nat → Nat) (ad : Nat → Nat) (D : Nat → Nat → Int32) (L : Nat → Nat → Int64) (i : Nat) : mS → va_E
  | .inl (k, n, q) => .inl (dA k, n, match k with
    | 0 => .inl (D i)
    | 1 => .inr (.inl (L i))
    | _ => .inr (.inr (.inr (.inr (fun j => (q.getD j none).map ad)))))
  | .inr (c, fs) => .inr (c, m_fs ad (D i) (L i) 0 fs)
def m_ws (dA : Nat → Nat) (ad : Nat → Nat) (h : mH) : va_W := h.1.mapIdx fun i s => (ad i, m_cell dA ad h.2.1 h.2.2 i s)
theorem m_ws_len (dA ad : Nat → Nat) (h : mH) : (m_ws dA ad h).length = h.1.length := by simp [m_ws]
theorem m_ws_get {dA ad : Nat → Nat} {h : mH} {i : Nat} {s : mS} (hs : h.1[i]? = some s) : (m_ws dA ad h)[i]? = some (ad i, m_cell dA ad h.2.1 h.2.2 i s) := by
  simp [m_ws, hs]
theorem m_ws_set {dA ad : Nat → Nat} {h h' : mH} {i : Nat} {e : va_E} (ho : ∀ j, j ≠ i → (h.1[j]?).map (m_cell dA ad h.2.1 h.2.2 j) = (h'.1[j]?).map (m_cell dA ad h'.2.1 h'.2.2 j)) (hi : (h'.1[i]?).map (m_cell dA ad h'.2.1 h'.2.2 i) = some e) (hl : i < h.1.length) : (m_ws dA ad h).set i (ad i, e) = m_ws dA ad h' := by
  apply List.ext_getElem?
  intro j
  by_cases hj : j = i
  · subst hj
    rw [List.getElem?_set_self (by rw [m_ws_len]; exact hl)]
    cases hz : h'.1[j]? with
    | none => rw [hz] at hi; cases hi
    | some z => rw [hz] at hi; rw [m_ws_get hz]; simp only [Option.map_some, Option.some.injEq] at hi; rw [hi]
  · rw [List.getElem?_set_ne (Ne.symm hj)]
    have h1 := ho j hj
    cases hz : h.1[j]? with
    | none =>
      rw [hz] at h1
      cases hz' : h'.1[j]? with
      | none => simp [m_ws, hz, hz']
      | some z => rw [hz'] at h1; cases h1
    | some z =>
      rw [hz] at h1
      cases hz' : h'.1[j]? with
      | none => rw [hz'] at h1; cases h1
      | some z' =>
        rw [hz'] at h1
        simp only [Option.map_some, Option.some.injEq] at h1
        rw [m_ws_get hz, m_ws_get hz', h1]
theorem m_ws_push {dA ad : Nat → Nat} {h : mH} {s : mS} {D : Nat → Nat → Int32} {L : Nat → Nat → Int64} (hD : ∀ i, i < h.1.length → D i = h.2.1 i) (hL : ∀ i, i < h.1.length → L i = h.2.2 i) : m_ws dA ad h ++ [(ad h.1.length, m_cell dA ad D L h.1.length s)] = m_ws dA ad (h.1 ++ [s], D, L) := by
  simp only [m_ws]
  rw [List.mapIdx_append]
  congr 1
  · apply List.ext_getElem?
    intro j
    simp only [List.getElem?_mapIdx]
    cases hz : h.1[j]? with
    | none => rfl
    | some z =>
      have hlt := (List.getElem?_eq_some_iff.mp hz).1
      simp only [Option.map_some, Option.some.injEq, Prod.mk.injEq, true_and]
      cases z with
      | inl a => obtain ⟨k, n, q⟩ := a; simp only [m_cell, hD j hlt, hL j hlt]
      | inr a => obtain ⟨c, fs⟩ := a; simp only [m_cell, hD j hlt, hL j hlt]
  · simp
theorem m_sl_app (a b : List mS) : m_sl (a ++ b) = m_sl a + m_sl b := by
  induction a with
  | nil => simp [m_sl]
  | cons x r ih => simp only [List.cons_append, m_sl, ih]; omega
theorem m_sl_set {a : List mS} {i : Nat} {x y : mS} (hx : a[i]? = some x) (he : m_sl1 y = m_sl1 x) : m_sl (a.set i y) = m_sl a := by
  induction a generalizing i with
  | nil => simp at hx
  | cons z r ih =>
    cases i with
    | zero => simp at hx; subst hx; simp [m_sl, he]
    | succ i => simp at hx; simp only [List.set_cons_succ, m_sl, ih hx]
/-- writing an int field -/
theorem m_fs_seti {ad : Nat → Nat} {di di' : Nat → Int32} {li : Nat → Int64} {fs : List Value} {k : Nat} {z x : Int32} (hk : fs[k]? = some (.int z)) (hd : ∀ j, di' j = if j = k then x else di j) : (m_fs ad di li 0 fs).set k (.int x) = m_fs ad di' li 0 fs := by
  apply List.ext_getElem?
  intro j
  have hl := (List.getElem?_eq_some_iff.mp hk).1
  by_cases hj : j = k
  · subst hj
    rw [List.getElem?_set_self (by rw [m_fs_len]; exact hl), m_fs_get, hk]
    simp [m_fv, hd]
  · rw [List.getElem?_set_ne (Ne.symm hj), m_fs_get, m_fs_get]
    cases hz : fs[j]? with
    | none => rfl
    | some v => cases v <;> simp [m_fv, hd, hj]
theorem m_fs_setl {ad : Nat → Nat} {di : Nat → Int32} {li li' : Nat → Int64} {fs : List Value} {k : Nat} {z x : Int64} (hk : fs[k]? = some (.long z)) (hd : ∀ j, li' j = if j = k then x else li j) : (m_fs ad di li 0 fs).set k (.long x) = m_fs ad di li' 0 fs := by
  apply List.ext_getElem?
  intro j
  have hl := (List.getElem?_eq_some_iff.mp hk).1
  by_cases hj : j = k
  · subst hj
    rw [List.getElem?_set_self (by rw [m_fs_len]; exact hl), m_fs_get, hk]
    simp [m_fv, hd]
  · rw [List.getElem?_set_ne (Ne.symm hj), m_fs_get, m_fs_get]
    cases hz : fs[j]? with
    | none => rfl
    | some v => cases v <;> simp [m_fv, hd, hj]
theorem m_fs_setr {ad : Nat → Nat} {di : Nat → Int32} {li : Nat → Int64} {fs : List Value} {k q : Nat} {v : Value} (hk : fs[k]? = some v) : (m_fs ad di li 0 fs).set k (.ref (ad q)) = m_fs ad di li 0 (fs.set k (.ref q)) := by
  apply List.ext_getElem?
  intro j
  have hl := (List.getElem?_eq_some_iff.mp hk).1
  by_cases hj : j = k
  · subst hj
    rw [List.getElem?_set_self (by rw [m_fs_len]; exact hl), m_fs_get, List.getElem?_set_self hl]
    simp [m_fv]
  · rw [List.getElem?_set_ne (Ne.symm hj), m_fs_get, m_fs_get, List.getElem?_set_ne (Ne.symm hj)]
theorem m_mu_self (D : Nat → Nat → Int32) (i k : Nat) (x : Int32) : mu D i k x i = upd (D i) k x := by
  simp only [mu, if_true]; rfl
theorem m_mu_ne (D : Nat → Nat → Int32) {i j : Nat} (k : Nat) (x : Int32) (h : j ≠ i) : mu D i k x j = D j := by
  simp only [mu, if_neg h]
theorem m_muL_self (D : Nat → Nat → Int64) (i k : Nat) (x : Int64) : muL D i k x i = vp_updL (D i) k x := by
  simp only [muL, if_true]; rfl
theorem m_muL_ne (D : Nat → Nat → Int64) {i j : Nat} (k : Nat) (x : Int64) (h : j ≠ i) : muL D i k x j = D j := by
  simp only [muL, if_neg h]
theorem m_cell_eq {dA ad : Nat → Nat} {D D' : Nat → Nat → Int32} {L L' : Nat → Nat → Int64} {i : Nat} (s : mS) (hD : D' i = D i) (hL : L' i = L i) : m_cell dA ad D L i s = m_cell dA ad D' L' i s := by
  cases s with
  | inl a => obtain ⟨k, n, q⟩ := a; simp only [m_cell, hD, hL]
  | inr a => obtain ⟨c, fs⟩ := a; simp only [m_cell, hD, hL]
/-- locals -/
def m_LH (ad : Nat → Nat) (vF : Value) (ls : Array Slot) (nL : Nat) (l : List (Option Value)) : Prop := ls.size = nL ∧ lv_wf ls ∧ ∀ (i : Nat) (v : Value), l[i]? = some (some v) → ls[i]? = some (.val (m_v ad vF v))
def m_lv (ad : Nat → Nat) (vF : Value) : Nat → List (Option Value) → List (Nat × Value)
  | _, [] => []
  | i, none :: r => m_lv ad vF (i + 1) r
  | i, some v :: r => (i, m_v ad vF v) :: m_lv ad vF (i + 1) r
theorem m_lv_mem (ad : Nat → Nat) (vF : Value) : ∀ (l : List (Option Value)) (i : Nat) (q : Nat × Value), q ∈ m_lv ad vF i l ↔ ∃ j v, l[j]? = some (some v) ∧ q = (i + j, m_v ad vF v) := by
  intro l
  induction l with
  | nil => intro i q; simp [m_lv]
  | cons a r ih =>
    intro i q
    have step : ∀ (z : Option Value), (∃ j v, r[j]? = some (some v) ∧ q = (i + 1 + j, m_v ad vF v)) ↔ ∃ j v, (z :: r)[j + 1]? = some (some v) ∧ q = (i + (j + 1), m_v ad vF v) := by
      intro z
      constructor
      · rintro ⟨j, v, h1, h2⟩; exact ⟨j, v, by simpa using h1, by rw [h2, show i + 1 + j = i + (j + 1) by omega]⟩
      · rintro ⟨j, v, h1, h2⟩; exact ⟨j, v, by simpa using h1, by rw [h2, show i + 1 + j = i + (j + 1) by omega]⟩
    cases a with
    | none =>
      simp only [m_lv]
      rw [ih, step none]
      constructor
      · rintro ⟨j, v, h1, h2⟩; exact ⟨j + 1, v, h1, h2⟩
      · rintro ⟨j, v, h1, h2⟩
        cases j with
        | zero => simp at h1
        | succ j => exact ⟨j, v, h1, h2⟩
    | some w =>
      simp only [m_lv, List.mem_cons]
      rw [ih, step (some w)]
      constructor
      · rintro (h | ⟨j, v, h1, h2⟩)
        · exact ⟨0, w, by simp, by simpa using h⟩
        · exact ⟨j + 1, v, h1, h2⟩
      · rintro ⟨j, v, h1, h2⟩
        cases j with
        | zero => left; simp at h1; subst h1; simpa using h2
        | succ j => exact Or.inr ⟨j, v, h1, h2⟩
theorem m_LH.has {ad : Nat → Nat} {vF : Value} {ls : Array Slot} {nL : Nat} {l : List (Option Value)} (h : m_LH ad vF ls nL l) : lv_has ls nL (m_lv ad vF 0 l) := by
  refine ⟨h.1, h.2.1, fun q hq => ?_⟩
  obtain ⟨j, v, h1, rfl⟩ := (m_lv_mem ad vF l 0 q).mp hq
  simpa using h.2.2 j v h1
theorem m_LH.of {ad : Nat → Nat} {vF : Value} {ls : Array Slot} {nL : Nat} {l : List (Option Value)} {lv : List (Nat × Value)} (h : lv_has ls nL lv) (hl : ∀ (i : Nat) (v : Value), l[i]? = some (some v) → (i, m_v ad vF v) ∈ lv) : m_LH ad vF ls nL l :=
  ⟨h.1, h.2.1, fun i v hv => h.2.2 _ (hl i v hv)⟩
/-- behind a store of one place: what the machine still knows is among what the row gives -/
theorem m_s1_ok {ad : Nat → Nat} {vF : Value} {l l' : List (Option Value)} {i : Nat} {v : Value} (hc : ∀ w : Value, (m_v ad vF w).category = 2 → ∃ x, w = .long x ∨ ∃ y, w = .double y) (h : m_s1 l i v = some l') : i < l.length ∧ ∀ (j : Nat) (w : Value), l'[j]? = some (some w) → (j, m_v ad vF w) ∈ (i, m_v ad vF v) :: (m_lv ad vF 0 l).filter (fun q => !(q.1 == i) && !(q.1 + 1 == i && q.2.category == 2)) := by
  unfold m_s1 at h
  split at h
  · next hi =>
    refine ⟨hi, fun j w hw => ?_⟩
    have key : ∀ l2 : List (Option Value), (∀ j w, l2[j]? = some (some w) → j = i ∧ w = v ∨ (j ≠ i ∧ l[j]? = some (some w) ∧ (j + 1 = i → ¬ (m_v ad vF w).category = 2))) → l2[j]? = some (some w) → (j, m_v ad vF w) ∈ (i, m_v ad vF v) :: (m_lv ad vF 0 l).filter (fun q => !(q.1 == i) && !(q.1 + 1 == i && q.2.category == 2)) := by
      intro l2 hk hj
      rcases hk j w hj with ⟨rfl, rfl⟩ | ⟨h1, h2, h3⟩
      · exact List.mem_cons_self
      · refine List.mem_cons_of_mem _ (List.mem_filter.mpr ⟨(m_lv_mem ad vF l 0 _).mpr ⟨j, w, h2, by simp⟩, ?_⟩)
        by_cases h4 : j + 1 = i
        · have := h3 h4
          simp [h1, this]
        · simp [h1, h4]
    have hset : ∀ (n : Nat), i = n → ∀ j w, (l.set n (some v))[j]? = some (some w) → j = i ∧ w = v ∨ (j ≠ i ∧ l[j]? = some (some w)) := by
      rintro n rfl j w hj
      by_cases hji : j = i
      · subst hji
        rw [List.getElem?_set_self hi] at hj
        simp at hj
        exact Or.inl ⟨rfl, hj.symm⟩
      · rw [List.getElem?_set_ne (Ne.symm hji)] at hj
        exact Or.inr ⟨hji, hj⟩
    cases i with
    | zero =>
      simp only [Option.some.injEq] at h
      subst h
      refine key _ (fun j w hj => ?_) hw
      rcases hset 0 rfl j w hj with h1 | ⟨h1, h2⟩
      · exact Or.inl h1
      · exact Or.inr ⟨h1, h2, fun z => by omega⟩
    | succ k =>
      simp only at h
      split at h
      · next x hk =>
        simp only [Option.some.injEq] at h
        subst h
        refine key _ (fun j w hj => ?_) hw
        by_cases hjk : j = k
        · subst hjk
          by_cases hlt : j < (l.set (j + 1) (some v)).length
          · rw [List.getElem?_set_self hlt] at hj; cases hj
          · rw [List.getElem?_eq_none (by simpa using hlt)] at hj; cases hj
        · rw [List.getElem?_set_ne (Ne.symm hjk)] at hj
          rcases hset (k + 1) rfl j w hj with h1 | ⟨h1, h2⟩
          · exact Or.inl h1
          · exact Or.inr ⟨h1, h2, fun z => by omega⟩
      · cases h
      · next n1 n2 =>
        simp only [Option.some.injEq] at h
        subst h
        refine key _ (fun j w hj => ?_) hw
        rcases hset (k + 1) rfl j w hj with h1 | ⟨h1, h2⟩
        · exact Or.inl h1
        · refine Or.inr ⟨h1, h2, fun z hc2 => ?_⟩
          have hjk : j = k := by omega
          subst hjk
          obtain ⟨x, rfl | ⟨y, rfl⟩⟩ := hc w hc2
          · exact n1 x h2
          · exact n2 y h2
  · cases h
theorem m_s2_ok {ad : Nat → Nat} {vF : Value} {l l' : List (Option Value)} {i : Nat} {v : Value} (hc : ∀ w : Value, (m_v ad vF w).category = 2 → ∃ x, w = .long x ∨ ∃ y, w = .double y) (h : m_s2 l i v = some l') : i + 1 < l.length ∧ ∀ (j : Nat) (w : Value), l'[j]? = some (some w) → (j, m_v ad vF w) ∈ (i, m_v ad vF v) :: (m_lv ad vF 0 l).filter (fun q => !(q.1 == i) && (!(q.1 == i + 1) && !(q.1 + 1 == i && q.2.category == 2))) := by
  unfold m_s2 at h
  split at h
  · next hi =>
    refine ⟨hi, fun j w hw => ?_⟩
    have key : ∀ l2 : List (Option Value), (∀ j w, l2[j]? = some (some w) → j = i ∧ w = v ∨ (j ≠ i ∧ j ≠ i + 1 ∧ l[j]? = some (some w) ∧ (j + 1 = i → ¬ (m_v ad vF w).category = 2))) → l2[j]? = some (some w) → (j, m_v ad vF w) ∈ (i, m_v ad vF v) :: (m_lv ad vF 0 l).filter (fun q => !(q.1 == i) && (!(q.1 == i + 1) && !(q.1 + 1 == i && q.2.category == 2))) := by
      intro l2 hk hj
      rcases hk j w hj with ⟨rfl, rfl⟩ | ⟨h1, h0, h2, h3⟩
      · exact List.mem_cons_self
      · refine List.mem_cons_of_mem _ (List.mem_filter.mpr ⟨(m_lv_mem ad vF l 0 _).mpr ⟨j, w, h2, by simp⟩, ?_⟩)
        by_cases h4 : j + 1 = i
        · have := h3 h4
          simp [h1, h0, this]
        · simp [h1, h0, h4]
    have hset : ∀ (n : Nat), i = n → ∀ j w, ((l.set n (some v)).set (n + 1) none)[j]? = some (some w) → j = i ∧ w = v ∨ (j ≠ i ∧ j ≠ i + 1 ∧ l[j]? = some (some w)) := by
      rintro n rfl j w hj
      by_cases hj1 : j = i + 1
      · subst hj1
        rw [List.getElem?_set_self (by simpa using hi)] at hj
        cases hj
      · rw [List.getElem?_set_ne (Ne.symm hj1)] at hj
        by_cases hji : j = i
        · subst hji
          rw [List.getElem?_set_self (by omega)] at hj
          simp at hj
          exact Or.inl ⟨rfl, hj.symm⟩
        · rw [List.getElem?_set_ne (Ne.symm hji)] at hj
          exact Or.inr ⟨hji, hj1, hj⟩
    cases i with
    | zero =>
      simp only [Option.some.injEq] at h
      subst h
      refine key _ (fun j w hj => ?_) hw
      rcases hset 0 rfl j w hj with h1 | ⟨h1, h0, h2⟩
      · exact Or.inl h1
      · exact Or.inr ⟨h1, h0, h2, fun z => by omega⟩
    | succ k =>
      simp only at h
      split at h
      · next x hk =>
        simp only [Option.some.injEq] at h
        subst h
        refine key _ (fun j w hj => ?_) hw
        by_cases hjk : j = k
        · subst hjk
          by_cases hlt : j < ((l.set (j + 1) (some v)).set (j + 2) none).length
          · rw [List.getElem?_set_self hlt] at hj; cases hj
          · rw [List.getElem?_eq_none (by simpa using hlt)] at hj; cases hj
        · rw [List.getElem?_set_ne (Ne.symm hjk)] at hj
          rcases hset (k + 1) rfl j w hj with h1 | ⟨h1, h0, h2⟩
          · exact Or.inl h1
          · exact Or.inr ⟨h1, h0, h2, fun z => by omega⟩
      · cases h
      · next n1 n2 =>
        simp only [Option.some.injEq] at h
        subst h
        refine key _ (fun j w hj => ?_) hw
        rcases hset (k + 1) rfl j w hj with h1 | ⟨h1, h0, h2⟩
        · exact Or.inl h1
        · refine Or.inr ⟨h1, h0, h2, fun z hc2 => ?_⟩
          have hjk : j = k := by omega
          subst hjk
          obtain ⟨x, rfl | ⟨y, rfl⟩⟩ := hc w hc2
          · exact n1 x h2
          · exact n2 y h2
  · cases h
