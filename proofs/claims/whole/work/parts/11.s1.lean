/-! The small machine's states beside the JVM's: base: where the cells begin that were made since the start; oa: where the things lie that were there before -/
def s_tv (base : Nat) (oa : Nat → Nat) : Value → Value
  | .ref i => .ref (base + i)
  | .retAddr k => .ref (oa k)
  | v => v
def s_re (base : Nat) (oa : Nat → Nat) (cA : Nat → ClassId) : mC → va_E
  | .inl (t, x) => .inl (cA t, x)
  | .inr (c, fs) => .inr (c, fs.map (s_tv base oa))
def s_rl (base : Nat) (oa : Nat → Nat) (cA : Nat → ClassId) (h : List mC) : va_W := h.mapIdx (fun i c => (base + i, s_re base oa cA c))
def s_A (base : Nat) : Nat → Prop := fun q => base ≤ q
def s_tys (cA : Nat → ClassId) : List (ClassId × FieldType) := [(cA 0, .int), (cA 1, .byte), (cA 2, .long)]
/-- the locals that are held, by their places -/
def s_la (base : Nat) (oa : Nat → Nat) (ls : List Value) : List (Nat × Value) := ls.zipIdx.filterMap (fun q => if q.1 = mJ then none else some (q.2, s_tv base oa q.1))
def s_lr (base : Nat) (oa : Nat → Nat) (nL : Nat) (ls : List Value) (lsM : Array Slot) : Prop := ls.length = nL ∧ lv_has lsM nL (s_la base oa ls)
/-- how many slots a cell counts -/
def s_cs : mC → Nat
  | .inl (_, x) => x.1
  | .inr (_, fs) => fs.length
def s_nc (h : mH) : Nat := h.1.length + h.2
def s_ns (h : mH) : Nat := (h.1.map s_cs).sum + 6 * h.2
theorem s_tv_int (base : Nat) (oa : Nat → Nat) (x : Int32) : s_tv base oa (.int x) = .int x := rfl
theorem s_tv_long (base : Nat) (oa : Nat → Nat) (x : Int64) : s_tv base oa (.long x) = .long x := rfl
theorem s_tv_ref (base : Nat) (oa : Nat → Nat) (x : Nat) : s_tv base oa (.ref x) = .ref (base + x) := rfl
theorem s_tv_ret (base : Nat) (oa : Nat → Nat) (x : Nat) : s_tv base oa (.retAddr x) = .ref (oa x) := rfl
theorem s_tv_cat (base : Nat) (oa : Nat → Nat) (v : Value) : (s_tv base oa v).category = v.category := by cases v <;> rfl
theorem s_cat_sum (base : Nat) (oa : Nat → Nat) (st : List Value) : ((st.map (s_tv base oa)).map fun v => v.category).sum = (st.map fun v => v.category).sum := by
  rw [List.map_map]
  congr 1
  exact List.map_congr_left fun v _ => s_tv_cat base oa v
theorem s_rl_get {base : Nat} {oa : Nat → Nat} {cA : Nat → ClassId} {h : List mC} {i : Nat} {c : mC} (hi : h[i]? = some c) : (s_rl base oa cA h)[i]? = some (base + i, s_re base oa cA c) := by
  simp [s_rl, List.getElem?_mapIdx, hi]
theorem s_rl_some {base : Nat} {oa : Nat → Nat} {cA : Nat → ClassId} {h : List mC} {i : Nat} {q : Nat × va_E} (hi : (s_rl base oa cA h)[i]? = some q) : ∃ c, h[i]? = some c ∧ q = (base + i, s_re base oa cA c) := by
  simp only [s_rl, List.getElem?_mapIdx, Option.map_eq_some_iff] at hi
  obtain ⟨c, h1, h2⟩ := hi
  exact ⟨c, h1, h2.symm⟩
theorem s_rl_len {base : Nat} {oa : Nat → Nat} {cA : Nat → ClassId} {h : List mC} : (s_rl base oa cA h).length = h.length := by simp [s_rl]
theorem s_rl_set {base : Nat} {oa : Nat → Nat} {cA : Nat → ClassId} (h : List mC) (i : Nat) (c : mC) : s_rl base oa cA (h.set i c) = (s_rl base oa cA h).set i (base + i, s_re base oa cA c) := by
  refine List.ext_getElem? fun j => ?_
  simp only [s_rl, List.getElem?_mapIdx, List.getElem?_set, List.length_mapIdx]
  by_cases hj : i = j
  · subst hj
    by_cases hl : i < h.length
    · simp [hl]
    · simp [hl]
  · simp [hj]
theorem s_rl_push {base : Nat} {oa : Nat → Nat} {cA : Nat → ClassId} (h : List mC) (c : mC) : s_rl base oa cA (h ++ [c]) = s_rl base oa cA h ++ [(base + h.length, s_re base oa cA c)] := by
  refine List.ext_getElem? fun j => ?_
  rcases Nat.lt_trichotomy j h.length with hj | hj | hj
  · rw [List.getElem?_append_left (by rw [s_rl_len]; exact hj)]
    simp only [s_rl, List.getElem?_mapIdx]
    rw [List.getElem?_append_left hj]
  · subst hj
    rw [List.getElem?_append_right (by rw [s_rl_len]; exact Nat.le_refl _), s_rl_len]
    simp [s_rl, List.getElem?_mapIdx]
  · rw [List.getElem?_append_right (by rw [s_rl_len]; omega), s_rl_len]
    rw [List.getElem?_eq_none (show (s_rl base oa cA (h ++ [c])).length ≤ j by rw [s_rl_len, List.length_append]; exact hj), List.getElem?_eq_none (show [(base + h.length, s_re base oa cA c)].length ≤ j - h.length by show 1 ≤ _; omega)]
theorem s_rl_D {base : Nat} {oa : Nat → Nat} {cA : Nat → ClassId} {h : List mC} : va_D (s_A base) (s_rl base oa cA h) := by
  refine ⟨fun i j p q hp hq e => ?_, fun k q hq => ?_⟩
  · obtain ⟨c, -, rfl⟩ := s_rl_some hp
    obtain ⟨c', -, rfl⟩ := s_rl_some hq
    simp only at e
    omega
  · obtain ⟨c, -, rfl⟩ := s_rl_some hq
    exact Nat.le_add_right _ _
theorem s_la_mem {base : Nat} {oa : Nat → Nat} {ls : List Value} {i : Nat} {w : Value} : (i, w) ∈ s_la base oa ls ↔ ∃ v, ls[i]? = some v ∧ v ≠ mJ ∧ w = s_tv base oa v := by
  simp only [s_la, List.mem_filterMap]
  constructor
  · rintro ⟨⟨v, j⟩, hm, hv⟩
    have hg := List.mk_mem_zipIdx_iff_getElem?.mp hm
    split at hv
    · cases hv
    · rename_i hne
      cases hv
      exact ⟨v, hg, hne, rfl⟩
  · rintro ⟨v, hg, hne, rfl⟩
    refine ⟨(v, i), List.mk_mem_zipIdx_iff_getElem?.mpr hg, ?_⟩
    simp [hne]
theorem s_lr_get {base : Nat} {oa : Nat → Nat} {nL : Nat} {ls : List Value} {lsM : Array Slot} (h : s_lr base oa nL ls lsM) {i : Nat} {v : Value} (hi : ls[i]? = some v) (hv : v ≠ mJ) : lsM[i]? = some (.val (s_tv base oa v)) :=
  h.2.2.2 (i, s_tv base oa v) (s_la_mem.mpr ⟨v, hi, hv, rfl⟩)
theorem s_lr_set {base : Nat} {oa : Nat → Nat} {nL : Nat} {ls : List Value} {lsM lsM' : Array Slot} (h : s_lr base oa nL ls lsM) {i : Nat} {v w : Value} (hw : w = s_tv base oa v) (hf : m_fr ls i = true)
    (h' : lv_has lsM' nL ((i, w) :: (s_la base oa ls).filter (fun q => !(q.1 == i) && !(q.1 + 1 == i && q.2.category == 2)))) : s_lr base oa nL (ls.set i v) lsM' := by
  refine ⟨by rw [List.length_set]; exact h.1, h'.1, h'.2.1, fun q hq => h'.2.2 q ?_⟩
  obtain ⟨j, z⟩ := q
  obtain ⟨u, hu, hne, rfl⟩ := s_la_mem.mp hq
  rw [List.getElem?_set] at hu
  by_cases hij : i = j
  · subst hij
    simp only [if_true] at hu
    split at hu
    · cases hu; rw [hw]; exact List.mem_cons_self
    · cases hu
  · rw [if_neg hij] at hu
    refine List.mem_cons_of_mem _ (List.mem_filter.mpr ⟨s_la_mem.mpr ⟨u, hu, hne, rfl⟩, ?_⟩)
    have h1 : (j == i) = false := by simp; omega
    simp only [h1, Bool.not_false, Bool.true_and]
    by_cases hj : j + 1 = i
    · subst hj
      simp only [m_fr, hu] at hf
      simp only [s_tv_cat]
      simp at hf
      simp [hf]
    · simp [hj]
theorem s_lr_set2 {base : Nat} {oa : Nat → Nat} {nL : Nat} {ls : List Value} {lsM lsM' : Array Slot} (h : s_lr base oa nL ls lsM) {i : Nat} {v w : Value} (hw : w = s_tv base oa v) (hf : m_fr ls i = true)
    (h' : lv_has lsM' nL ((i, w) :: (s_la base oa ls).filter (fun q => !(q.1 == i) && (!(q.1 == i + 1) && !(q.1 + 1 == i && q.2.category == 2))))) : s_lr base oa nL ((ls.set i v).set (i + 1) mJ) lsM' := by
  refine ⟨by rw [List.length_set, List.length_set]; exact h.1, h'.1, h'.2.1, fun q hq => h'.2.2 q ?_⟩
  obtain ⟨j, z⟩ := q
  obtain ⟨u, hu, hne, rfl⟩ := s_la_mem.mp hq
  rw [List.getElem?_set] at hu
  by_cases hij : i + 1 = j
  · subst hij
    simp only [if_true] at hu
    split at hu
    · cases hu; exact absurd rfl hne
    · cases hu
  · rw [if_neg hij, List.getElem?_set] at hu
    by_cases hij2 : i = j
    · subst hij2
      simp only [if_true] at hu
      split at hu
      · cases hu; rw [hw]; exact List.mem_cons_self
      · cases hu
    · rw [if_neg hij2] at hu
      refine List.mem_cons_of_mem _ (List.mem_filter.mpr ⟨s_la_mem.mpr ⟨u, hu, hne, rfl⟩, ?_⟩)
      have h1 : (j == i) = false := by simp; omega
      have h2 : (j == i + 1) = false := by simp; omega
      simp only [h1, h2, Bool.not_false, Bool.true_and]
      by_cases hj : j + 1 = i
      · subst hj
        simp only [m_fr, hu] at hf
        simp only [s_tv_cat]
        simp at hf
        simp [hf]
      · simp [hj]
theorem s_lr_junk {base : Nat} {oa : Nat → Nat} {nL : Nat} {ls : List Value} {lsM lsM' : Array Slot} (h : s_lr base oa nL ls lsM) {i : Nat} {w : Value} (hf : m_fr ls i = true)
    (h' : lv_has lsM' nL ((i, w) :: (s_la base oa ls).filter (fun q => !(q.1 == i) && !(q.1 + 1 == i && q.2.category == 2)))) : s_lr base oa nL (ls.set i mJ) lsM' := by
  refine ⟨by rw [List.length_set]; exact h.1, h'.1, h'.2.1, fun q hq => h'.2.2 q ?_⟩
  obtain ⟨j, z⟩ := q
  obtain ⟨u, hu, hne, rfl⟩ := s_la_mem.mp hq
  rw [List.getElem?_set] at hu
  by_cases hij : i = j
  · subst hij
    simp only [if_true] at hu
    split at hu
    · cases hu; exact absurd rfl hne
    · cases hu
  · rw [if_neg hij] at hu
    refine List.mem_cons_of_mem _ (List.mem_filter.mpr ⟨s_la_mem.mpr ⟨u, hu, hne, rfl⟩, ?_⟩)
    have h1 : (j == i) = false := by simp; omega
    simp only [h1, Bool.not_false, Bool.true_and]
    by_cases hj : j + 1 = i
    · subst hj
      simp only [m_fr, hu] at hf
      simp only [s_tv_cat]
      simp at hf
      simp [hf]
    · simp [hj]
