/-! Shapes of cells; small laws -/
abbrev aI (n : Nat) (f : Nat → Int32) : mC := .inl (0, n, .inl f)
abbrev aB (n : Nat) (f : Nat → Int32) : mC := .inl (1, n, .inl f)
abbrev aL (n : Nat) (f : Nat → Int64) : mC := .inl (2, n, .inr (.inl f))
theorem ite_bind {α β : Type} {p : Prop} (i : Decidable p) (a b : Option α) (f : α → Option β) : (@ite _ p i a b).bind f = @ite _ p i (a.bind f) (b.bind f) := by split <;> rfl
theorem ai_eq {h : mH} {a n : Nat} {f : Nat → Int32} (ha : h.1[a]? = some (aI n f)) (i : Int32) : m_ai h a i = if i < 0 ∨ n ≤ i.toNatClampNeg then none else some (f i.toNatClampNeg) := by simp only [m_ai, ha]
theorem ai_n {h : mH} {a n : Nat} {f : Nat → Int32} (ha : h.1[a]? = some (aI n f)) {k : Nat} (hk : k < n) (hn : n < 2 ^ 31) : m_ai h a (nI k) = some (f k) := by
  have h1 : vp_in (nI k) n := vp_in_nI hk hn
  rw [ai_eq ha, if_neg h1, nI_clamp (by omega)]
theorem si_n {h : mH} {a n : Nat} {f : Nat → Int32} (ha : h.1[a]? = some (aI n f)) {k : Nat} (hk : k < n) (hn : n < 2 ^ 31) (x : Int32) : m_si h a (nI k) x = some (h.1.set a (aI n (upd f k x)), h.2) := by
  have h1 : vp_in (nI k) n := vp_in_nI hk hn
  simp only [m_si, ha]
  rw [if_neg h1, nI_clamp (by omega)]
theorem al_n {h : mH} {a n : Nat} {f : Nat → Int64} (ha : h.1[a]? = some (aL n f)) {k : Nat} (hk : k < n) (hn : n < 2 ^ 31) : m_al h a (nI k) = some (f k) := by
  have h1 : vp_in (nI k) n := vp_in_nI hk hn
  simp only [m_al, ha]
  rw [if_neg h1, nI_clamp (by omega)]
theorem sl_n {h : mH} {a n : Nat} {f : Nat → Int64} (ha : h.1[a]? = some (aL n f)) {k : Nat} (hk : k < n) (hn : n < 2 ^ 31) (x : Int64) : m_sl h a (nI k) x = some (h.1.set a (aL n (vp_updL f k x)), h.2) := by
  have h1 : vp_in (nI k) n := vp_in_nI hk hn
  simp only [m_sl, ha]
  rw [if_neg h1, nI_clamp (by omega)]
theorem ln_i {h : mH} {a n : Nat} {f : Nat → Int32} (ha : h.1[a]? = some (aI n f)) : m_ln h a = some (nI n) := by simp only [m_ln, ha]; rfl
theorem ln_l {h : mH} {a n : Nat} {f : Nat → Int64} (ha : h.1[a]? = some (aL n f)) : m_ln h a = some (nI n) := by simp only [m_ln, ha]; rfl
theorem hset {l : List mC} {a : Nat} {c : mC} (h : l[a]? = some c) : l.set a c = l := by
  refine List.ext_getElem? fun j => ?_
  rw [List.getElem?_set]
  split
  · rename_i e; subst e
    split
    · exact h.symm
    · rename_i q; exact absurd (List.getElem?_eq_some_iff.mp h).1 q
  · rfl
theorem hget {l : List mC} {a : Nat} {c c' : mC} (h : l[a]? = some c) : (l.set a c')[a]? = some c' := by
  rw [List.getElem?_set, if_pos rfl, if_pos (List.getElem?_eq_some_iff.mp h).1]
theorem hne {l : List mC} {a b : Nat} {c' : mC} (h : a ≠ b) : (l.set a c')[b]? = l[b]? := by
  rw [List.getElem?_set, if_neg h]
theorem cat_int (x : Int32) : (Value.int x).category = 1 := rfl
theorem cat_ref (x : Nat) : (Value.ref x).category = 1 := rfl
theorem cat_ret (x : Nat) : (Value.retAddr x).category = 1 := rfl
theorem cat_J : mJ.category = 1 := rfl
/-- Arrays.fill(int[], int) -/
def fl (n : Nat) (x : Int32) (f : Nat → Int32) : Nat → Int32 := fun j => if j < n then x else f j
theorem fill_loop (O : mO) (d a n : Nat) (x : Int32) (hn : n < 2 ^ 31) : ∀ (k i : Nat) (f : Nat → Int32) (h : mH), i + k = n → h.1[a]? = some (aI n f) →
    ev O d 262 5 [.ref a, .int x, .int (nI i), .int (nI n)] [] h = some (.inl none, (h.1.set a (aI n (fun j => if i ≤ j ∧ j < n then x else f j)), h.2)) := by
  intro k
  induction k with
  | zero =>
    intro i f h hi ha
    have hi : i = n := by omega
    subst hi
    rw [e_262_5]
    simp only [e_262_0, e_262_1, e_262_2, e_262_3, e_262_4, e_262_6, e_262_7, e_262_10, e_262_11, e_262_12, e_262_13, e_262_14, e_262_17, e_262_20, Int32.le_refl, ↓reduceIte]
    have e : (fun j => if i ≤ j ∧ j < i then x else f j) = f := by funext j; rw [if_neg (by omega)]
    rw [e, hset ha]
  | succ k ih =>
    intro i f h hi ha
    have h1 : ¬ nI n ≤ nI i := nI_ge (by omega) hn
    rw [e_262_5]
    simp only [e_262_0, e_262_1, e_262_2, e_262_3, e_262_4, e_262_6, e_262_7, e_262_10, e_262_11, e_262_12, e_262_13, e_262_14, e_262_17, e_262_20, h1, ↓reduceIte, si_n ha (show i < n by omega) hn, Option.bind_some, Option.bind_none, m_kt, m_kn, Option.toList_some, Option.toList_none, List.nil_append, List.cons_append, List.append_nil, nI_1]
    rw [ih (i + 1) (upd f i x) _ (by omega) (hget ha)]
    simp only [List.set_set]
    congr 5
    funext j
    unfold upd
    split <;> split <;> first | rfl | omega | (split <;> first | rfl | omega)
theorem fill_i (O : mO) (d a n : Nat) (x : Int32) (f : Nat → Int32) (h : mH) (hn : n < 2 ^ 31) (ha : h.1[a]? = some (aI n f)) :
    ev O d 262 0 [.ref a, .int x, mJ, mJ] [] h = some (.inl none, (h.1.set a (aI n (fl n x f)), h.2)) := by
  simp only [e_262_0, e_262_1, e_262_2, e_262_3, e_262_4, e_262_6, e_262_7, e_262_10, e_262_11, e_262_12, e_262_13, e_262_14, e_262_17, e_262_20, ln_i ha, Option.bind_some, Option.bind_none, m_kt, m_kn, Option.toList_some, Option.toList_none, List.nil_append, List.cons_append, List.append_nil]
  have := fill_loop O d a n x hn n 0 f h (by omega) ha
  rw [nI_0] at this
  rw [this]
  congr 5
  funext j
  simp [fl]
theorem fillL_loop (O : mO) (d a n : Nat) (x : Int64) (hn : n < 2 ^ 31) : ∀ (k i : Nat) (f : Nat → Int64) (h : mH), i + k = n → h.1[a]? = some (aL n f) →
    ev O d 261 6 [.ref a, .long x, mJ, .int (nI i), .int (nI n)] [] h = some (.inl none, (h.1.set a (aL n (fun j => if i ≤ j ∧ j < n then x else f j)), h.2)) := by
  intro k
  induction k with
  | zero =>
    intro i f h hi ha
    have hi : i = n := by omega
    subst hi
    rw [e_261_6]
    simp only [e_261_0, e_261_1, e_261_1I, e_261_1A, e_261_1O, e_261_2, e_261_3, e_261_4, e_261_7, e_261_9, e_261_12, e_261_13, e_261_14, e_261_15, e_261_16, e_261_16I, e_261_16A, e_261_16O, e_261_19, e_261_22, Int32.le_refl, ↓reduceIte]
    have e : (fun j => if i ≤ j ∧ j < i then x else f j) = f := by funext j; rw [if_neg (by omega)]
    rw [e, hset ha]
  | succ k ih =>
    intro i f h hi ha
    have h1 : ¬ nI n ≤ nI i := nI_ge (by omega) hn
    rw [e_261_6]
    simp only [e_261_0, e_261_1, e_261_1I, e_261_1A, e_261_1O, e_261_2, e_261_3, e_261_4, e_261_7, e_261_9, e_261_12, e_261_13, e_261_14, e_261_15, e_261_16, e_261_16I, e_261_16A, e_261_16O, e_261_19, e_261_22, h1, ↓reduceIte, sl_n ha (show i < n by omega) hn, Option.bind_some, Option.bind_none, m_kt, m_kn, Option.toList_some, Option.toList_none, List.nil_append, List.cons_append, List.append_nil, nI_1]
    rw [ih (i + 1) (vp_updL f i x) (h.1.set a (aL n (vp_updL f i x)), h.2) (by omega) (hget ha)]
    simp only [List.set_set]
    congr 6
    funext j
    unfold vp_updL
    split <;> split <;> first | rfl | omega | (split <;> first | rfl | omega)
theorem fill_l (O : mO) (d a n : Nat) (x : Int64) (f : Nat → Int64) (h : mH) (hn : n < 2 ^ 31) (ha : h.1[a]? = some (aL n f)) :
    ev O d 261 0 [.ref a, .long x, mJ, mJ, mJ] [] h = some (.inl none, (h.1.set a (aL n (fun j => if j < n then x else f j)), h.2)) := by
  simp only [e_261_0, e_261_1, e_261_1I, e_261_1A, e_261_1O, e_261_2, e_261_3, e_261_4, e_261_7, e_261_9, e_261_12, e_261_13, e_261_14, e_261_15, e_261_16, e_261_16I, e_261_16A, e_261_16O, e_261_19, e_261_22, ln_l ha, Option.bind_some, Option.bind_none, m_kt, m_kn, Option.toList_some, Option.toList_none, List.nil_append, List.cons_append, List.append_nil]
  have := fillL_loop O d a n x hn n 0 f h (by omega) ha
  rw [nI_0] at this
  rw [this]
  congr 6
  funext j
  simp
/-! Loops -/
def lp {σ : Type} (f : Nat → σ → σ) : Nat → σ → σ
  | 0, s => s
  | n + 1, s => f n (lp f n s)
theorem lp_0 {σ : Type} (f : Nat → σ → σ) (s : σ) : lp f 0 s = s := rfl
theorem lp_s {σ : Type} (f : Nat → σ → σ) (n : Nat) (s : σ) : lp f (n + 1) s = f n (lp f n s) := rfl
theorem lp_run {σ ρ : Type} {F : Nat → σ → ρ} {f : Nat → σ → σ} {n : Nat} (h : ∀ i s, i < n → F i s = F (i + 1) (f i s)) (s : σ) : F 0 s = F n (lp f n s) := by
  induction n with
  | zero => rfl
  | succ n ih => rw [ih (fun i s hi => h i s (by omega)), h n _ (by omega)]; rfl
theorem lp_runI {σ ρ : Type} (I : Nat → σ → Prop) {F : Nat → σ → ρ} {f : Nat → σ → σ} {n : Nat} {s : σ} (h0 : I 0 s) (h : ∀ i s, i < n → I i s → I (i + 1) (f i s) ∧ F i s = F (i + 1) (f i s)) : I n (lp f n s) ∧ F 0 s = F n (lp f n s) := by
  induction n with
  | zero => exact ⟨h0, rfl⟩
  | succ n ih =>
    obtain ⟨a, b⟩ := ih (fun i s hi => h i s (by omega))
    obtain ⟨c, e⟩ := h n _ (by omega) a
    exact ⟨c, by rw [b, e]; rfl⟩
theorem lp_I {σ : Type} (I : Nat → σ → Prop) {f : Nat → σ → σ} {n : Nat} {s : σ} (h0 : I 0 s) (h : ∀ i s, i < n → I i s → I (i + 1) (f i s)) : I n (lp f n s) := by
  induction n with
  | zero => exact h0
  | succ n ih => exact h n _ (by omega) (ih (fun i s hi => h i s (by omega)))
theorem lp_congr {σ : Type} {f g : Nat → σ → σ} {n : Nat} (h : ∀ i s, i < n → f i s = g i s) (s : σ) : lp f n s = lp g n s := by
  induction n with
  | zero => rfl
  | succ n ih => rw [lp_s, lp_s, ih (fun i s hi => h i s (by omega)), h n _ (by omega)]
/-- the first of n places that has it -/
def fd (c : Nat → Bool) : Nat → Option Nat
  | 0 => none
  | n + 1 => match fd c n with
    | some i => some i
    | none => if c n = true then some n else none
theorem fd_some {c : Nat → Bool} : ∀ {n i : Nat}, fd c n = some i → i < n ∧ c i = true ∧ ∀ j, j < i → c j = false
  | 0, i, h => by cases h
  | n + 1, i, h => by
    unfold fd at h
    cases e : fd c n with
    | some k =>
      rw [e] at h
      cases h
      obtain ⟨a, b, q⟩ := fd_some e
      exact ⟨by omega, b, q⟩
    | none =>
      rw [e] at h
      simp only at h
      split at h
      · rename_i hc
        cases h
        refine ⟨by omega, hc, fun j hj => ?_⟩
        exact fd_none' e j hj
      · cases h
where fd_none' {c : Nat → Bool} : ∀ {n : Nat}, fd c n = none → ∀ j, j < n → c j = false
  | 0, _, j, hj => by omega
  | n + 1, h, j, hj => by
    unfold fd at h
    cases e : fd c n with
    | some k => rw [e] at h; cases h
    | none =>
      rw [e] at h
      simp only at h
      split at h
      · cases h
      · rename_i hc
        rcases Nat.lt_or_ge j n with q | q
        · exact fd_none' e j q
        · have : j = n := by omega
          subst this
          exact Bool.eq_false_iff.mpr hc
theorem fd_none {c : Nat → Bool} {n : Nat} (h : fd c n = none) : ∀ j, j < n → c j = false := fd_some.fd_none' h
theorem fd_congr {c e : Nat → Bool} : ∀ {n : Nat}, (∀ i, i < n → c i = e i) → fd c n = fd e n
  | 0, _ => rfl
  | n + 1, h => by
    unfold fd
    rw [fd_congr (fun i hi => h i (by omega)), h n (by omega)]
theorem fd_run {ρ : Type} {F : Nat → ρ} {c : Nat → Bool} {n : Nat} {r : Nat → ρ} (h : ∀ i, i < n → F i = if c i = true then r i else F (i + 1)) : F 0 = match fd c n with
    | some i => r i
    | none => F n := by
  induction n with
  | zero => rfl
  | succ n ih =>
    have e := ih (fun i hi => h i (by omega))
    have e2 : fd c (n + 1) = match fd c n with
      | some i => some i
      | none => if c n = true then some n else none := rfl
    rw [e, e2]
    cases hf : fd c n with
    | some i => rfl
    | none =>
      simp only
      rw [h n (by omega)]
      cases c n <;> rfl
/-! Small words -/
def bI (b : Bool) : Int32 := if b = true then 1 else 0
def jv (o : Option Int32) : Value := match o with
  | none => mJ
  | some x => .int x
theorem ltn (a b : Int32) : (a < b) = ¬ (b ≤ a) := propext Int32.not_le.symm
theorem bI_0 (b : Bool) : (bI b = 0) = (b = false) := by cases b <;> simp [bI]
theorem bI_01 (b : Bool) : (bI b = 0 ∨ bI b = 1) = True := by cases b <;> simp [bI]
theorem bI_t : bI true = 1 := rfl
theorem bI_f : bI false = 0 := rfl
theorem i1_0 : ((1 : Int32) = 0) = False := by decide
theorem i0_0 : ((0 : Int32) = 0) = True := by decide
theorem z01 : ((0 : Int32) = 0 ∨ (0 : Int32) = 1) = True := by decide
theorem o01 : ((1 : Int32) = 0 ∨ (1 : Int32) = 1) = True := by decide
def mx (x y : Int32) : Int32 := if y ≤ x then x else y
def mn (x y : Int32) : Int32 := if x ≤ y then x else y
theorem mx_e (x y : Int32) : (if x < y then y else x) = mx x y := by unfold mx; simp only [ltn, ite_not]
theorem mn_e (x y : Int32) : (if y < x then y else x) = mn x y := by unfold mn; simp only [ltn, ite_not]
theorem i_le (x y : Int32) : x ≤ y ↔ x.toInt ≤ y.toInt := Int32.le_iff_toInt_le
theorem i_lt (x y : Int32) : x < y ↔ x.toInt < y.toInt := Int32.lt_iff_toInt_lt
theorem mx_c (x y : Int32) : mx x y = mx y x := by
  unfold mx; split <;> split <;> first | rfl | (rename_i a b; simp only [i_le, ← Int32.toInt_inj] at *; omega)
theorem mn_c (x y : Int32) : mn x y = mn y x := by
  unfold mn; split <;> split <;> first | rfl | (rename_i a b; simp only [i_le, ← Int32.toInt_inj] at *; omega)
theorem n5 (k : Nat) : (5 : Int32) * nI k = nI (5 * k) := by rw [← pk_mul]; rfl
theorem n6 (k : Nat) : (6 : Int32) * nI k = nI (6 * k) := by rw [← pk_mul]; rfl
theorem nx3 (k : Nat) : (3 : Int32) * nI k = nI (3 * k) := by rw [← pk_mul]; rfl
theorem nx2 (k : Nat) : (2 : Int32) * nI k = nI (2 * k) := by rw [← pk_mul]; rfl
theorem n30 (k : Nat) : (30 : Int32) * nI k = nI (30 * k) := by rw [← pk_mul]; rfl
theorem nA (k j : Nat) : nI k + nI j = nI (k + j) := nI_add k j
theorem n_1 : (1 : Int32) = nI 1 := rfl
theorem n_2 : (2 : Int32) = nI 2 := rfl
theorem n_3 : (3 : Int32) = nI 3 := rfl
theorem n_4 : (4 : Int32) = nI 4 := rfl
theorem n_5 : (5 : Int32) = nI 5 := rfl
theorem nP1 (k : Nat) : nI k + 1 = nI (k + 1) := nI_1 k
theorem nP2 (k : Nat) : nI k + 2 = nI (k + 2) := nI_add k 2
theorem nP3 (k : Nat) : nI k + 3 = nI (k + 3) := nI_add k 3
theorem nP4 (k : Nat) : nI k + 4 = nI (k + 4) := nI_add k 4
theorem nP5 (k : Nat) : nI k + 5 = nI (k + 5) := nI_add k 5
theorem nL7 (k : Nat) : (7 : Int32) + nI k = nI (7 + k) := nI_add 7 k
theorem nL187 (k : Nat) : (187 : Int32) + nI k = nI (187 + k) := nI_add 187 k
theorem nL247 (k : Nat) : (247 : Int32) + nI k = nI (247 + k) := nI_add 247 k
theorem nL427 (k : Nat) : (427 : Int32) + nI k = nI (427 + k) := nI_add 427 k
theorem nL428 (k : Nat) : (428 : Int32) + nI k = nI (428 + k) := nI_add 428 k
theorem nL464 (k : Nat) : (464 : Int32) + nI k = nI (464 + k) := nI_add 464 k
theorem nLe {a b : Nat} (ha : a < 2 ^ 31) (hb : b < 2 ^ 31) : (nI a ≤ nI b) = (a ≤ b) := propext (nI_leI ha hb)
theorem nEq {a b : Nat} (ha : a < 2 ^ 31) (hb : b < 2 ^ 31) : (nI a = nI b) = (a = b) := propext (nI_eq ha hb)
