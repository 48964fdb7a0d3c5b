/-! Shapes of cells; small laws -/
abbrev aI (n : Nat) (f : Nat → Int32) : mC := .inl (0, n, .inl f)
abbrev aB (n : Nat) (f : Nat → Int32) : mC := .inl (1, n, .inl f)
abbrev aL (n : Nat) (f : Nat → Int64) : mC := .inl (2, n, .inr (.inl f))
theorem ite_bind {α β : Type} {p : Prop} (i : Decidable p) (a b : Option α) (f : α → Option β) : (@ite _ p i a b).bind f = @ite _ p i (a.bind f) (b.bind f) := by split <;> rfl
theorem ai_eq {h : mH} {a n : Nat} {f : Nat → Int32} (ha : h.1[a]? = some (aI n f)) (i : Int32) : m_ai h a i = if i < 0 ∨ n ≤ i.toNatClampNeg then none else some (f i.toNatClampNeg) := by simp only [m_ai, ha]
theorem ai_n {h : mH} {a n : Nat} {f : Nat → Int32} (ha : h.1[a]? = some (aI n f)) {k : Nat} (hk : k < n) (hn : n < 2 ^ 31) : m_ai h a (nI k) = some (f k) := by
  have h1 : vp_in (nI k) n := vp_in_nI hk hn
  rw [ai_eq ha, if_neg h1, nI_clamp (by omega)]
theorem si_n {h : mH} {a n : Nat} {f : Nat → Int32} (ha : h.1[a]? = some (aI n f)) {k : Nat} (hk : k < n) (hn : n < 2 ^ 31) (x : Int32) : m_si h a (nI k) x = some (h.1.set a (aI n (upd f k x)), h.2) := by
  have h1 : vp_in (nI k) n := vp_in_nI hk hn
  simp only [m_si, ha]
  rw [if_neg h1, nI_clamp (by omega)]
theorem al_n {h : mH} {a n : Nat} {f : Nat → Int64} (ha : h.1[a]? = some (aL n f)) {k : Nat} (hk : k < n) (hn : n < 2 ^ 31) : m_al h a (nI k) = some (f k) := by
  have h1 : vp_in (nI k) n := vp_in_nI hk hn
  simp only [m_al, ha]
  rw [if_neg h1, nI_clamp (by omega)]
theorem sl_n {h : mH} {a n : Nat} {f : Nat → Int64} (ha : h.1[a]? = some (aL n f)) {k : Nat} (hk : k < n) (hn : n < 2 ^ 31) (x : Int64) : m_sl h a (nI k) x = some (h.1.set a (aL n (vp_updL f k x)), h.2) := by
  have h1 : vp_in (nI k) n := vp_in_nI hk hn
  simp only [m_sl, ha]
  rw [if_neg h1, nI_clamp (by omega)]
theorem ln_i {h : mH} {a n : Nat} {f : Nat → Int32} (ha : h.1[a]? = some (aI n f)) : m_ln h a = some (nI n) := by simp only [m_ln, ha]; rfl
theorem ln_l {h : mH} {a n : Nat} {f : Nat → Int64} (ha : h.1[a]? = some (aL n f)) : m_ln h a = some (nI n) := by simp only [m_ln, ha]; rfl
theorem hset {l : List mC} {a : Nat} {c : mC} (h : l[a]? = some c) : l.set a c = l := by
  refine List.ext_getElem? fun j => ?_
  rw [List.getElem?_set]
  split
  · rename_i e; subst e
    split
    · exact h.symm
    · rename_i q; exact absurd (List.getElem?_eq_some_iff.mp h).1 q
  · rfl
theorem hget {l : List mC} {a : Nat} {c c' : mC} (h : l[a]? = some c) : (l.set a c')[a]? = some c' := by
  rw [List.getElem?_set, if_pos rfl, if_pos (List.getElem?_eq_some_iff.mp h).1]
theorem hne {l : List mC} {a b : Nat} {c' : mC} (h : a ≠ b) : (l.set a c')[b]? = l[b]? := by
  rw [List.getElem?_set, if_neg h]
theorem cat_int (x : Int32) : (Value.int x).category = 1 := rfl
theorem cat_ref (x : Nat) : (Value.ref x).category = 1 := rfl
theorem cat_ret (x : Nat) : (Value.retAddr x).category = 1 := rfl
theorem cat_J : mJ.category = 1 := rfl
/-- Arrays.fill(int[], int) -/
def fl (n : Nat) (x : Int32) (f : Nat → Int32) : Nat → Int32 := fun j => if j < n then x else f j
theorem fill_loop (O : mO) (d a n : Nat) (x : Int32) (hn : n < 2 ^ 31) : ∀ (k i : Nat) (f : Nat → Int32) (h : mH), i + k = n → h.1[a]? = some (aI n f) →
    ev O d 262 5 [.ref a, .int x, .int (nI i), .int (nI n)] [] h = some (.inl none, (h.1.set a (aI n (fun j => if i ≤ j ∧ j < n then x else f j)), h.2)) := by
  intro k
  induction k with
  | zero =>
    intro i f h hi ha
    have hi : i = n := by omega
    subst hi
    rw [e_262_5]
    simp only [e_262_0, e_262_1, e_262_2, e_262_3, e_262_4, e_262_6, e_262_7, e_262_10, e_262_11, e_262_12, e_262_13, e_262_14, e_262_17, e_262_20, Int32.le_refl, ↓reduceIte]
    have e : (fun j => if i ≤ j ∧ j < i then x else f j) = f := by funext j; rw [if_neg (by omega)]
    rw [e, hset ha]
  | succ k ih =>
    intro i f h hi ha
    have h1 : ¬ nI n ≤ nI i := nI_ge (by omega) hn
    rw [e_262_5]
    simp only [e_262_0, e_262_1, e_262_2, e_262_3, e_262_4, e_262_6, e_262_7, e_262_10, e_262_11, e_262_12, e_262_13, e_262_14, e_262_17, e_262_20, h1, ↓reduceIte, si_n ha (show i < n by omega) hn, Option.bind_some, Option.bind_none, m_kt, m_kn, Option.toList_some, Option.toList_none, List.nil_append, List.cons_append, List.append_nil, nI_1]
    rw [ih (i + 1) (upd f i x) _ (by omega) (hget ha)]
    simp only [List.set_set]
    congr 5
    funext j
    unfold upd
    split <;> split <;> first | rfl | omega | (split <;> first | rfl | omega)
theorem fill_i (O : mO) (d a n : Nat) (x : Int32) (f : Nat → Int32) (h : mH) (hn : n < 2 ^ 31) (ha : h.1[a]? = some (aI n f)) :
    ev O d 262 0 [.ref a, .int x, mJ, mJ] [] h = some (.inl none, (h.1.set a (aI n (fl n x f)), h.2)) := by
  simp only [e_262_0, e_262_1, e_262_2, e_262_3, e_262_4, e_262_6, e_262_7, e_262_10, e_262_11, e_262_12, e_262_13, e_262_14, e_262_17, e_262_20, ln_i ha, Option.bind_some, Option.bind_none, m_kt, m_kn, Option.toList_some, Option.toList_none, List.nil_append, List.cons_append, List.append_nil]
  have := fill_loop O d a n x hn n 0 f h (by omega) ha
  rw [nI_0] at this
  rw [this]
  congr 5
  funext j
  simp [fl]
theorem fillL_loop (O : mO) (d a n : Nat) (x : Int64) (hn : n < 2 ^ 31) : ∀ (k i : Nat) (f : Nat → Int64) (h : mH), i + k = n → h.1[a]? = some (aL n f) →
    ev O d 261 6 [.ref a, .long x, mJ, .int (nI i), .int (nI n)] [] h = some (.inl none, (h.1.set a (aL n (fun j => if i ≤ j ∧ j < n then x else f j)), h.2)) := by
  intro k
  induction k with
  | zero =>
    intro i f h hi ha
    have hi : i = n := by omega
    subst hi
    rw [e_261_6]
    simp only [e_261_0, e_261_1, e_261_1I, e_261_1A, e_261_1O, e_261_2, e_261_3, e_261_4, e_261_7, e_261_9, e_261_12, e_261_13, e_261_14, e_261_15, e_261_16, e_261_16I, e_261_16A, e_261_16O, e_261_19, e_261_22, Int32.le_refl, ↓reduceIte]
    have e : (fun j => if i ≤ j ∧ j < i then x else f j) = f := by funext j; rw [if_neg (by omega)]
    rw [e, hset ha]
  | succ k ih =>
    intro i f h hi ha
    have h1 : ¬ nI n ≤ nI i := nI_ge (by omega) hn
    rw [e_261_6]
    simp only [e_261_0, e_261_1, e_261_1I, e_261_1A, e_261_1O, e_261_2, e_261_3, e_261_4, e_261_7, e_261_9, e_261_12, e_261_13, e_261_14, e_261_15, e_261_16, e_261_16I, e_261_16A, e_261_16O, e_261_19, e_261_22, h1, ↓reduceIte, sl_n ha (show i < n by omega) hn, Option.bind_some, Option.bind_none, m_kt, m_kn, Option.toList_some, Option.toList_none, List.nil_append, List.cons_append, List.append_nil, nI_1]
    rw [ih (i + 1) (vp_updL f i x) (h.1.set a (aL n (vp_updL f i x)), h.2) (by omega) (hget ha)]
    simp only [List.set_set]
    congr 6
    funext j
    unfold vp_updL
    split <;> split <;> first | rfl | omega | (split <;> first | rfl | omega)
theorem fill_l (O : mO) (d a n : Nat) (x : Int64) (f : Nat → Int64) (h : mH) (hn : n < 2 ^ 31) (ha : h.1[a]? = some (aL n f)) :
    ev O d 261 0 [.ref a, .long x, mJ, mJ, mJ] [] h = some (.inl none, (h.1.set a (aL n (fun j => if j < n then x else f j)), h.2)) := by
  simp only [e_261_0, e_261_1, e_261_1I, e_261_1A, e_261_1O, e_261_2, e_261_3, e_261_4, e_261_7, e_261_9, e_261_12, e_261_13, e_261_14, e_261_15, e_261_16, e_261_16I, e_261_16A, e_261_16O, e_261_19, e_261_22, ln_l ha, Option.bind_some, Option.bind_none, m_kt, m_kn, Option.toList_some, Option.toList_none, List.nil_append, List.cons_append, List.append_nil]
  have := fillL_loop O d a n x hn n 0 f h (by omega) ha
  rw [nI_0] at this
  rw [this]
  congr 6
  funext j
  simp
