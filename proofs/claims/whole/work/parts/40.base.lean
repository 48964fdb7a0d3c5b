/-! Shapes of cells; small laws -/
abbrev aI (n : Nat) (f : Nat → Int32) : mC := .inl (0, n, .inl f)
abbrev aB (n : Nat) (f : Nat → Int32) : mC := .inl (1, n, .inl f)
abbrev aL (n : Nat) (f : Nat → Int64) : mC := .inl (2, n, .inr (.inl f))
theorem ite_bind {α β : Type} {p : Prop} (i : Decidable p) (a b : Option α) (f : α → Option β) : (@ite _ p i a b).bind f = @ite _ p i (a.bind f) (b.bind f) := by split <;> rfl
theorem ai_eq {h : mH} {a n : Nat} {f : Nat → Int32} (ha : h.1[a]? = some (aI n f)) (i : Int32) : m_ai h a i = if i < 0 ∨ n ≤ i.toNatClampNeg then none else some (f i.toNatClampNeg) := by simp only [m_ai, ha]
theorem ai_n {h : mH} {a n : Nat} {f : Nat → Int32} (ha : h.1[a]? = some (aI n f)) {k : Nat} (hk : k < n) (hn : n < 2 ^ 31) : m_ai h a (nI k) = some (f k) := by
  have h1 : vp_in (nI k) n := vp_in_nI hk hn
  rw [ai_eq ha, if_neg h1, nI_clamp (by omega)]
theorem si_n {h : mH} {a n : Nat} {f : Nat → Int32} (ha : h.1[a]? = some (aI n f)) {k : Nat} (hk : k < n) (hn : n < 2 ^ 31) (x : Int32) : m_si h a (nI k) x = some (h.1.set a (aI n (upd f k x)), h.2) := by
  have h1 : vp_in (nI k) n := vp_in_nI hk hn
  simp only [m_si, ha]
  rw [if_neg h1, nI_clamp (by omega)]
theorem max_i (O : mO) (d : Nat) (x y : Int32) (h : mH) : ev O d 256 0 [.int x, .int y] [] h = some (.inl (some (.int (if x < y then y else x))), h) := by
  simp only [e_256_0, e_256_1, e_256_2, e_256_5, e_256_6, e_256_9, e_256_10]
  split <;> rfl
theorem min_i (O : mO) (d : Nat) (x y : Int32) (h : mH) : ev O d 258 0 [.int x, .int y] [] h = some (.inl (some (.int (if y < x then y else x))), h) := by
  simp only [e_258_0, e_258_1, e_258_2, e_258_5, e_258_6, e_258_9, e_258_10]
  split <;> rfl
theorem abs_i (O : mO) (d : Nat) (x : Int32) (h : mH) : ev O d 255 0 [.int x] [] h = some (.inl (some (.int (if 0 ≤ x then x else -x))), h) := by
  simp only [e_255_0, e_255_1, e_255_4, e_255_5, e_255_6, e_255_9, e_255_10]
  split <;> rfl
/-- Arrays.fill(int[], int) -/
def fl (n : Nat) (x : Int32) (f : Nat → Int32) : Nat → Int32 := fun j => if j < n then x else f j
theorem fill_loop (O : mO) (d a n : Nat) (x : Int32) (hn : n < 2 ^ 31) : ∀ (k i : Nat) (f : Nat → Int32) (h : mH), i + k = n → h.1[a]? = some (aI n f) →
    ev O d 266 5 [.ref a, .int x, .int (nI i), .int (nI n)] [] h = some (.inl none, (h.1.set a (aI n (fun j => if i ≤ j ∧ j < n then x else f j)), h.2)) := by
  intro k
  induction k with
  | zero =>
    intro i f h hi ha
    have hi : i = n := by omega
    subst hi
    simp only [e_266_0, e_266_1, e_266_2, e_266_3, e_266_4, e_266_5, e_266_6, e_266_7, e_266_10, e_266_11, e_266_12, e_266_13, e_266_14, e_266_17, e_266_20, Int32.le_refl, if_true]
    have e : (fun j => if i ≤ j ∧ j < i then x else f j) = f := by funext j; rw [if_neg (by omega)]
    rw [e]
    congr 2
    rw [List.set_getElem?_self?]
  | succ k ih =>
    intro i f h hi ha
    have h1 : ¬ nI n ≤ nI i := nI_ge (by omega) hn
    simp only [e_266_0, e_266_1, e_266_2, e_266_3, e_266_4, e_266_6, e_266_7, e_266_10, e_266_11, e_266_12, e_266_13, e_266_14, e_266_17, e_266_20, e_266_5, if_neg h1, si_n ha (show i < n by omega) hn, Option.bind_some, Option.bind_none, m_kt, m_kn, Option.toList_some, Option.toList_none, List.nil_append, List.cons_append, List.append_nil]
    rw [nI_1]
    rw [ih (i + 1) (upd f i x) _ (by omega) (by simp [(List.getElem?_eq_some_iff.mp ha).1])]
    sorry
