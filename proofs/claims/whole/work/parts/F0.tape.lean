/-! Texts of the program; the class's tape, read thing by thing -/
def TX (O : mO) (k : Nat) (w : List Nat) : Prop := m_isO O k = true ∧ m_gO O k 0 = some (.retAddr (k + 1)) ∧ m_gO O k 1 = some (.int 0) ∧ ∃ f, O (k + 1) = some (aB w.length f) ∧ ∀ i, i < w.length → f i = nI (w.getD i 0)
def low (w : List Nat) : Prop := 0 < w.length ∧ w.length ≤ 10 ∧ ∀ i, i < w.length → 97 ≤ w.getD i 0 ∧ w.getD i 0 ≤ 122
theorem sv1 (O : mO) : m_sv O (.int 1) = .int 1 := rfl
theorem ab_n {h : mH} {a n : Nat} {f : Nat → Int32} (ha : h.1[a]? = some (aB n f)) {k : Nat} (hk : k < n) (hn : n < 2 ^ 31) : m_ab h a (nI k) = some (f k) := by
  have h1 : vp_in (nI k) n := vp_in_nI hk hn
  simp only [m_ab, ha]
  rw [if_neg h1, nI_clamp (by omega)]
theorem abO_n {O : mO} {a n : Nat} {f : Nat → Int32} (ha : O a = some (aB n f)) {k : Nat} (hk : k < n) (hn : n < 2 ^ 31) : m_abO O a (nI k) = some (f k) := by
  have h1 : vp_in (nI k) n := vp_in_nI hk hn
  simp only [m_abO, ha]
  rw [if_neg h1, nI_clamp (by omega)]
theorem sb_n {h : mH} {a n : Nat} {f : Nat → Int32} (ha : h.1[a]? = some (aB n f)) {k : Nat} (hk : k < n) (hn : n < 2 ^ 31) (x : Int32) : m_sb h a (nI k) x = some (h.1.set a (aB n (upd f k x.toInt8.toInt32)), h.2) := by
  have h1 : vp_in (nI k) n := vp_in_nI hk hn
  simp only [m_sb, ha]
  rw [if_neg h1, nI_clamp (by omega)]
theorem shr0 (n : Nat) : nI n >>> ((0 : Int32) &&& 31) = nI n := by
  rw [show ((0 : Int32) &&& 31) = 0 from rfl]
  exact Int32.shiftRight_zero
theorem len_ev (O : mO) (d : Nat) (h : mH) {k : Nat} {w : List Nat} (X : TX O k w) : ev O (d + 1) 255 0 [.retAddr k] [] h = some (.inl (some (.int (nI w.length))), h) := by
  obtain ⟨x1, x2, x3, f, x4, x5⟩ := X
  have e1 : ev O d 257 0 [.retAddr k] [] h = some (.inl (some (.int (0))), h) := by
    simp only [e_257_0, e_257_3, e_257_6, e_257_7, e_257_10, e_257_13, e_257_14, Option.bind_some, Option.bind_none, m_kt, m_kn, Option.toList_some, Option.toList_none, List.nil_append, List.cons_append, List.append_nil, ltn, ite_not, ↓reduceIte, true_or, or_true, nP1, oI_s, oI_n, bI_f, bI_t, i1_0, i0_0, Bool.false_eq_true, not_true_eq_false, not_false_eq_true, sv1, x3]
    rfl
  have e2 : m_lnO O (k + 1) = some (nI w.length) := by simp only [m_lnO, x4]; rfl
  simp only [e_255_0, e_255_1, e_255_4, e_255_5, e_255_6, e_255_9, e_255_10, Option.bind_some, Option.bind_none, m_kt, m_kn, Option.toList_some, Option.toList_none, List.nil_append, List.cons_append, List.append_nil, ltn, ite_not, ↓reduceIte, true_or, or_true, nP1, oI_s, oI_n, bI_f, bI_t, i1_0, i0_0, Bool.false_eq_true, not_true_eq_false, not_false_eq_true, x2, e2, x1, e1, shr0]
theorem chr_ok : ∀ c, c < 128 → ((nI c &&& 255).toUInt32 % 65536).toInt32 = nI c ∧ (nI c).toUInt32.toUInt16.toUInt32.toInt32 = nI c := by decide +kernel
theorem chkI_ev (O : mO) (d : Nat) (h : mH) {i n : Nat} (hi : i < n) (hn : n < 2 ^ 31) (v : Value) : ev O d 263 0 [.int (nI i), .int (nI n), v] [] h = some (.inl (some (.int (nI i))), h) := by
  have c1 : 0 ≤ nI i := nI_pos' (by omega)
  have c2 : ¬ nI n ≤ nI i := nI_ge hi hn
  simp only [e_263_0, e_263_1, e_263_4, e_263_5, e_263_6, e_263_10, e_263_11, e_263_16, e_263_17, Option.bind_some, Option.bind_none, m_kt, m_kn, Option.toList_some, Option.toList_none, List.nil_append, List.cons_append, List.append_nil, ltn, ite_not, ↓reduceIte, true_or, or_true, nP1, oI_s, oI_n, bI_f, bI_t, i1_0, i0_0, Bool.false_eq_true, not_true_eq_false, not_false_eq_true, c1, c2]
theorem e259_5 (O : mO) (d : Nat) (a0 a1 : Value) (x y : Int32) (h : mH) : ev O (d + 1) 259 5 [a0, a1] [m_sv O (.retAddr 900), .int x, .int y] h = (ev O d 263 0 [.int y, .int x, m_sv O (.retAddr 900)] [] h).bind (m_kt fun v h => ev O (d + 1) 259 8 [a0, a1] (v.toList ++ []) h) := by
  have q : m_sv O (.retAddr 900) = .retAddr 900 ∨ m_sv O (.retAddr 900) = .null := by
    unfold m_sv
    simp only
    split
    · exact .inl rfl
    · exact .inr rfl
  rcases q with q | q <;> rw [q] <;> exact ev_callS (k := 263) (na := 3) rfl rfl
theorem cat_i (x : Int32) : ((Value.int x).category = 1) = True := by simp [cat_int]
theorem charAt_ev (O : mO) (d : Nat) (h : mH) {k : Nat} {w : List Nat} (X : TX O k w) (L : low w) {i : Nat} (hi : i < w.length) : ev O (d + 4) 256 0 [.retAddr k, .int (nI i)] [] h = some (.inl (some (.int (nI (w.getD i 0)))), h) := by
  obtain ⟨x1, x2, x3, f, x4, x5⟩ := X
  have hw := L.2.1
  have hc := L.2.2 i hi
  obtain ⟨k1, k2⟩ := chr_ok (w.getD i 0) (by omega)
  have e1 : ev O (d + 3) 258 0 [.retAddr k] [] h = some (.inl (some (.int (1))), h) := by
    simp only [e_258_0, e_258_3, e_258_6, e_258_7, e_258_10, e_258_13, e_258_14, e_258_17, e_258_18, Option.bind_some, Option.bind_none, m_kt, m_kn, Option.toList_some, Option.toList_none, List.nil_append, List.cons_append, List.append_nil, ltn, ite_not, ↓reduceIte, true_or, or_true, nP1, oI_s, oI_n, bI_f, bI_t, i1_0, i0_0, Bool.false_eq_true, not_true_eq_false, not_false_eq_true, sv1, x3, o01]
  have e2 : ev O (d + 2) 259 0 [.int (nI i), .int (nI w.length)] [] h = some (.inl none, h) := by
    simp only [e_259_0, e_259_1, e_259_2, e_259_8, e_259_9, Option.bind_some, Option.bind_none, m_kt, m_kn, Option.toList_some, Option.toList_none, List.nil_append, List.cons_append, List.append_nil, ltn, ite_not, ↓reduceIte, true_or, or_true, nP1, oI_s, oI_n, bI_f, bI_t, i1_0, i0_0, Bool.false_eq_true, not_true_eq_false, not_false_eq_true, e259_5, chkI_ev O (d + 1) h hi (by omega)]
  have e3 : m_lnO O (k + 1) = some (nI w.length) := by simp only [m_lnO, x4]; rfl
  have e4 : ev O (d + 3) 260 0 [.retAddr (k + 1), .int (nI i)] [] h = some (.inl (some (.int (nI (w.getD i 0)))), h) := by
    simp only [e_260_0, e_260_1, e_260_2, e_260_3, e_260_6, e_260_7, e_260_8, e_260_9, e_260_12, e_260_13, e_260_14, Option.bind_some, Option.bind_none, m_kt, m_kn, Option.toList_some, Option.toList_none, List.nil_append, List.cons_append, List.append_nil, ltn, ite_not, ↓reduceIte, true_or, or_true, nP1, oI_s, oI_n, bI_f, bI_t, i1_0, i0_0, Bool.false_eq_true, not_true_eq_false, not_false_eq_true, e3, e2, abO_n x4 hi (by omega), x5 i hi, k1, k2]
  simp only [e_256_0, e_256_1, e_256_4, e_256_7, e_256_8, e_256_11, e_256_12, e_256_15, e_256_16, e_256_17, e_256_20, Option.bind_some, Option.bind_none, m_kt, m_kn, Option.toList_some, Option.toList_none, List.nil_append, List.cons_append, List.append_nil, ltn, ite_not, ↓reduceIte, true_or, or_true, nP1, oI_s, oI_n, bI_f, bI_t, i1_0, i0_0, Bool.false_eq_true, not_true_eq_false, not_false_eq_true, x1, x2, e1, e4, k2]
/-! Skipping -/
def skN (c : Nat → Bool) : Nat → Nat → Nat
  | 0, p => p
  | k + 1, p => if c p = true then skN c k (p + 1) else p
theorem skN_s (c : Nat → Bool) (k p : Nat) : skN c (k + 1) p = if c p = true then skN c k (p + 1) else p := rfl
theorem skN_all {c : Nat → Bool} : ∀ k p, p ≤ skN c k p ∧ skN c k p ≤ p + k ∧ (∀ i, p ≤ i → i < skN c k p → c i = true) ∧ (skN c k p < p + k → c (skN c k p) = false)
  | 0, p => ⟨Nat.le_refl _, Nat.le_refl _, fun i a b => absurd a (by unfold skN at b; omega), fun q => absurd q (by unfold skN; omega)⟩
  | k + 1, p => by
    rw [skN_s]
    split
    · rename_i q
      obtain ⟨a, b, e, f⟩ := skN_all (c := c) k (p + 1)
      refine ⟨by omega, by omega, fun i h1 h2 => ?_, fun h => f (by omega)⟩
      by_cases z : i = p
      · subst z; exact q
      · exact e i (by omega) h2
    · rename_i q
      exact ⟨Nat.le_refl _, by omega, fun i h1 h2 => by omega, fun _ => Bool.eq_false_iff.mpr q⟩
theorem skN_is {c : Nat → Bool} {k p q : Nat} (h1 : p ≤ q) (h2 : q ≤ p + k) (h3 : ∀ i, p ≤ i → i < q → c i = true) (h4 : q < p + k → c q = false) : skN c k p = q := by
  obtain ⟨a, b, e, f⟩ := skN_all (c := c) k p
  rcases Nat.lt_trichotomy (skN c k p) q with z | z | z
  · have := h3 _ a z
    rw [f (by omega)] at this
    cases this
  · exact z
  · have := e _ h1 z
    rw [h4 (by omega)] at this
    cases this
def sb (B : Nat → Int32) (l p : Nat) : Nat := skN (fun i => decide (B i = 32)) (l - p) p
theorem sb_ge (B : Nat → Int32) (l p : Nat) : p ≤ sb B l p := (skN_all _ _).1
theorem sb_le {B : Nat → Int32} {l p : Nat} (h : p ≤ l) : sb B l p ≤ l := by
  have := (skN_all (c := fun i => decide (B i = 32)) (l - p) p).2.1
  unfold sb; omega
theorem sb_no {B : Nat → Int32} {l p : Nat} (h : sb B l p < l) : ¬ B (sb B l p) = 32 := by
  have hg := sb_ge B l p
  have := (skN_all (c := fun i => decide (B i = 32)) (l - p) p).2.2.2
  unfold sb at *
  have := this (by omega)
  exact of_decide_eq_false this
theorem sb_sb (B : Nat → Int32) (l p : Nat) : sb B l (sb B l p) = sb B l p := by
  have hg := sb_ge B l p
  rcases Nat.lt_or_ge (sb B l p) l with z | z
  · have := sb_no z
    show skN (fun i => decide (B i = 32)) (l - sb B l p) (sb B l p) = sb B l p
    rw [show l - sb B l p = (l - sb B l p - 1) + 1 by omega, skN_s, if_neg (by rw [decide_eq_true_eq]; exact this)]
  · show skN (fun i => decide (B i = 32)) (l - sb B l p) (sb B l p) = sb B l p
    rw [show l - sb B l p = 0 by omega]
    rfl
def ltr (B : Nat → Int32) (l i : Nat) : Bool := decide (i < l) && (decide (97 ≤ B i) && decide (B i ≤ 122))
def dgt (B : Nat → Int32) (l i : Nat) : Bool := decide (i < l) && (decide (48 ≤ B i) && decide (B i ≤ 57))
def mat (B : Nat → Int32) (q : Nat) (w : List Nat) : Bool := (fd (fun i => !decide (B (q + i) = nI (w.getD i 0))) w.length).isNone
def wd (B : Nat → Int32) (l q : Nat) (w : List Nat) : Bool := decide (q + w.length ≤ l) && (!ltr B l (q + w.length) && mat B q w)
def sg (B : Nat → Int32) (l p : Nat) (c : Int32) : Bool := decide (sb B l p < l) && decide (B (sb B l p) = c)
def vlu (B : Nat → Int32) (q : Nat) : Nat → Int32
  | 0 => 0
  | k + 1 => 10 * vlu B q k + B (q + k) - 48
def ndg (B : Nat → Int32) (l q : Nat) : Nat := skN (dgt B l) 4 q - q
def num (B : Nat → Int32) (l p : Nat) (lo hi : Int32) : Option (Int32 × Nat) := if (1 ≤ ndg B l (sb B l p) ∧ ndg B l (sb B l p) ≤ 3) ∧ lo ≤ vlu B (sb B l p) (ndg B l (sb B l p)) ∧ vlu B (sb B l p) (ndg B l (sb B l p)) ≤ hi then some (vlu B (sb B l p) (ndg B l (sb B l p)), sb B l p + ndg B l (sb B l p)) else none
theorem dgt_n {B : Nat → Int32} {l i : Nat} (h : dgt B l i = true) : i < l ∧ ∃ b, 48 ≤ b ∧ b ≤ 57 ∧ B i = nI b := by
  unfold dgt at h
  simp only [Bool.and_eq_true, decide_eq_true_eq] at h
  obtain ⟨h0, h1, h2⟩ := h
  obtain ⟨b, hb, e⟩ := nI_of (x := B i) (by rw [i_lt]; rw [i_le] at h1; have z : (0 : Int32).toInt = 0 := by decide
                                            have y : (48 : Int32).toInt = 48 := by decide
                                            omega)
  rw [e] at h1 h2
  have g1 := nLe (show 48 < 2 ^ 31 by omega) hb
  have g2 := nLe hb (show 57 < 2 ^ 31 by omega)
  exact ⟨h0, b, by rw [← g1]; exact h1, by rw [← g2]; exact h2, e⟩
theorem vl_n {B : Nat → Int32} {l q : Nat} : ∀ k, k ≤ 3 → (∀ i, i < k → dgt B l (q + i) = true) → ∃ j, j < 10 ^ k ∧ vlu B q k = nI j
  | 0, _, _ => ⟨0, by omega, rfl⟩
  | k + 1, hk, h => by
    obtain ⟨j, hj, e⟩ := vl_n k (by omega) (fun i hi => h i (by omega))
    obtain ⟨-, b, b1, b2, eb⟩ := dgt_n (h k (by omega))
    have p10 : 10 ^ (k + 1) = 10 * 10 ^ k := by rw [Nat.pow_succ]; omega
    have p3 : 10 ^ k ≤ 10 ^ 3 := Nat.pow_le_pow_right (by omega) (by omega)
    refine ⟨10 * j + b - 48, by omega, ?_⟩
    show 10 * vlu B q k + B (q + k) - 48 = _
    rw [e, eb, show (10 : Int32) = nI 10 from rfl, pk_mul, nA, show (48 : Int32) = nI 48 from rfl, pk_sub (by omega)]
theorem ndg_all (B : Nat → Int32) (l q : Nat) : ndg B l q ≤ 4 ∧ (∀ i, i < ndg B l q → dgt B l (q + i) = true) ∧ (ndg B l q < 4 → dgt B l (q + ndg B l q) = false) := by
  obtain ⟨a, b, e, f⟩ := skN_all (c := dgt B l) 4 q
  unfold ndg
  refine ⟨by omega, fun i hi => e _ (by omega) (by omega), fun h => ?_⟩
  rw [show q + (skN (dgt B l) 4 q - q) = skN (dgt B l) 4 q by omega]
  exact f (by omega)
theorem num_some {B : Nat → Int32} {l p : Nat} {lo hi v : Int32} {p' : Nat} (h : num B l p lo hi = some (v, p')) : sb B l p < p' ∧ p' ≤ l ∧ lo ≤ v ∧ v ≤ hi ∧ ∃ j, j ≤ 999 ∧ v = nI j := by
  unfold num at h
  split at h
  · rename_i q
    simp only [Option.some.injEq, Prod.mk.injEq] at h
    obtain ⟨rfl, rfl⟩ := h
    obtain ⟨a, b, -⟩ := ndg_all B l (sb B l p)
    obtain ⟨j, hj, e⟩ := vl_n (B := B) (l := l) (q := sb B l p) (ndg B l (sb B l p)) q.1.2 b
    have p3 : 10 ^ ndg B l (sb B l p) ≤ 10 ^ 3 := Nat.pow_le_pow_right (by omega) q.1.2
    have lst := (dgt_n (b (ndg B l (sb B l p) - 1) (by omega))).1
    exact ⟨by omega, by omega, q.2.1, q.2.2, j, by omega, e⟩
  · cases h
def hp (h : mH) (l p : Nat) (t w : Int32) : mH := (h.1.set 49 (oT (nI l) (nI p) t w), h.2)
section TapeC
variable {h : mH} {l p : Nat} {t w : Int32} {B : Nat → Int32}
theorem hp_at (K : h.1[49]? = some (oT (nI l) (nI p) t w)) (p' : Nat) (t' w' : Int32) : (hp h l p' t' w').1[49]? = some (oT (nI l) (nI p') t' w') := hget K
theorem hp_50 (e : h.1[50]? = some (aB 400 B)) (p' : Nat) (t' w' : Int32) : (hp h l p' t' w').1[50]? = some (aB 400 B) := (hne (by decide)).trans e
theorem hp_hp (p' q : Nat) (t' w' t2 w2 : Int32) : hp (hp h l p' t' w') l q t2 w2 = hp h l q t2 w2 := by unfold hp; rw [List.set_set]
theorem hp_id (K : h.1[49]? = some (oT (nI l) (nI p) t w)) : hp h l p t w = h := by unfold hp; rw [hset K]
theorem pp2 (K : h.1[49]? = some (oT (nI l) (nI p) t w)) (q : Nat) : m_pf h 49 5 2 (.int (nI q)) = some (hp h l q t w) := pT2 K _
theorem pp3 (K : h.1[49]? = some (oT (nI l) (nI p) t w)) (x : Int32) : m_pf h 49 5 3 (.int x) = some (hp h l p x w) := pT3 K _
theorem pp4 (K : h.1[49]? = some (oT (nI l) (nI p) t w)) (x : Int32) : m_pf h 49 5 4 (.int x) = some (hp h l p t x) := pT4 K _
theorem skip_ev (O : mO) (d : Nat) (e50 : h.1[50]? = some (aB 400 B)) (hl : l ≤ 400) : ∀ (k p : Nat), p + k = l → h.1[49]? = some (oT (nI l) (nI p) t w) → ev O (d) 86 0 [.ref 49] [] h = some (.inl none, hp h l (skN (fun i => decide (B i = 32)) k p) t w) := by
  intro k
  induction k generalizing h with
  | zero =>
    intro p hp0 K
    have c1 : nI l ≤ nI p := nI_le (by omega) (by omega)
    rw [e_86_0]
    simp only [e_86_1, e_86_4, e_86_5, e_86_8, e_86_11, e_86_12, e_86_15, e_86_16, e_86_19, e_86_20, e_86_22, e_86_25, e_86_26, e_86_27, e_86_30, e_86_31, e_86_32, e_86_35, e_86_38, Option.bind_some, Option.bind_none, m_kt, m_kn, Option.toList_some, Option.toList_none, List.nil_append, List.cons_append, List.append_nil, ltn, ite_not, ↓reduceIte, true_or, or_true, nP1, oI_s, oI_n, bI_f, bI_t, i1_0, i0_0, Bool.false_eq_true, not_true_eq_false, not_false_eq_true, gT2 K, gT1 K, c1]
    rw [show skN (fun i => decide (B i = 32)) 0 p = p from rfl, hp_id K]
  | succ k ih =>
    intro p hp0 K
    have c1 : ¬ nI l ≤ nI p := nI_ge (by omega) (by omega)
    rw [e_86_0, skN_s]
    by_cases q : B p = 32
    · rw [if_pos (decide_eq_true q)]
      have ih' := ih (h := hp h l (p + 1) t w) (hp_50 e50 _ _ _) (p + 1) (by omega) (hp_at K _ _ _)
      simp only [e_86_1, e_86_4, e_86_5, e_86_8, e_86_11, e_86_12, e_86_15, e_86_16, e_86_19, e_86_20, e_86_22, e_86_25, e_86_26, e_86_27, e_86_30, e_86_31, e_86_32, e_86_35, e_86_38, Option.bind_some, Option.bind_none, m_kt, m_kn, Option.toList_some, Option.toList_none, List.nil_append, List.cons_append, List.append_nil, ltn, ite_not, ↓reduceIte, true_or, or_true, nP1, oI_s, oI_n, bI_f, bI_t, i1_0, i0_0, Bool.false_eq_true, not_true_eq_false, not_false_eq_true, gT2 K, gT1 K, c1, gT0 K, ab_n e50 (show p < 400 by omega) (by decide), q, pp2 K, ih', hp_hp]
    · rw [if_neg (by rw [decide_eq_true_eq]; exact q)]
      simp only [e_86_1, e_86_4, e_86_5, e_86_8, e_86_11, e_86_12, e_86_15, e_86_16, e_86_19, e_86_20, e_86_22, e_86_25, e_86_26, e_86_27, e_86_30, e_86_31, e_86_32, e_86_35, e_86_38, Option.bind_some, Option.bind_none, m_kt, m_kn, Option.toList_some, Option.toList_none, List.nil_append, List.cons_append, List.append_nil, ltn, ite_not, ↓reduceIte, true_or, or_true, nP1, oI_s, oI_n, bI_f, bI_t, i1_0, i0_0, Bool.false_eq_true, not_true_eq_false, not_false_eq_true, gT2 K, gT1 K, c1, gT0 K, ab_n e50 (show p < 400 by omega) (by decide), q]
      rw [hp_id K]
theorem skipB_ev (O : mO) (d : Nat) (K : h.1[49]? = some (oT (nI l) (nI p) t w)) (e50 : h.1[50]? = some (aB 400 B)) (hl : l ≤ 400) (hpl : p ≤ l) : ev O (d) 86 0 [.ref 49] [] h = some (.inl none, hp h l (sb B l p) t w) := skip_ev O d e50 hl (l - p) p (by omega) K
theorem isLetter_ev (O : mO) (d : Nat) (K : h.1[49]? = some (oT (nI l) (nI p) t w)) (e50 : h.1[50]? = some (aB 400 B)) (hl : l ≤ 400) {i : Nat} (hi : i < 1000) : ev O (d) 87 0 [.ref 49, .int (nI i)] [] h = some (.inl (some (.int (bI (ltr B l i)))), h) := by
  unfold ltr
  by_cases c1 : i < l
  · have n1 : ¬ nI l ≤ nI i := nI_ge (by omega) (by omega)
    by_cases c2 : 97 ≤ B i <;> by_cases c3 : B i ≤ 122 <;> simp only [e_87_0, e_87_1, e_87_2, e_87_5, e_87_8, e_87_9, e_87_12, e_87_13, e_87_14, e_87_16, e_87_19, e_87_20, e_87_23, e_87_24, e_87_25, e_87_27, e_87_30, e_87_31, e_87_34, e_87_35, Option.bind_some, Option.bind_none, m_kt, m_kn, Option.toList_some, Option.toList_none, List.nil_append, List.cons_append, List.append_nil, ltn, ite_not, ↓reduceIte, true_or, or_true, nP1, oI_s, oI_n, bI_f, bI_t, i1_0, i0_0, Bool.false_eq_true, not_true_eq_false, not_false_eq_true, gT1 K, n1, gT0 K, ab_n e50 (show i < 400 by omega) (by decide), c1, c2, c3, z01, o01, decide_true, decide_false, Bool.and_true, Bool.and_false, Bool.true_and, Bool.false_and]
  · have n1 : nI l ≤ nI i := nI_le (by omega) (by omega)
    simp only [e_87_0, e_87_1, e_87_2, e_87_5, e_87_8, e_87_9, e_87_12, e_87_13, e_87_14, e_87_16, e_87_19, e_87_20, e_87_23, e_87_24, e_87_25, e_87_27, e_87_30, e_87_31, e_87_34, e_87_35, Option.bind_some, Option.bind_none, m_kt, m_kn, Option.toList_some, Option.toList_none, List.nil_append, List.cons_append, List.append_nil, ltn, ite_not, ↓reduceIte, true_or, or_true, nP1, oI_s, oI_n, bI_f, bI_t, i1_0, i0_0, Bool.false_eq_true, not_true_eq_false, not_false_eq_true, gT1 K, n1, c1, z01, decide_false, Bool.false_and]
theorem isDigit_ev (O : mO) (d : Nat) (K : h.1[49]? = some (oT (nI l) (nI p) t w)) (e50 : h.1[50]? = some (aB 400 B)) (hl : l ≤ 400) {i : Nat} (hi : i < 1000) : ev O (d) 88 0 [.ref 49, .int (nI i)] [] h = some (.inl (some (.int (bI (dgt B l i)))), h) := by
  unfold dgt
  by_cases c1 : i < l
  · have n1 : ¬ nI l ≤ nI i := nI_ge (by omega) (by omega)
    by_cases c2 : 48 ≤ B i <;> by_cases c3 : B i ≤ 57 <;> simp only [e_88_0, e_88_1, e_88_2, e_88_5, e_88_8, e_88_9, e_88_12, e_88_13, e_88_14, e_88_16, e_88_19, e_88_20, e_88_23, e_88_24, e_88_25, e_88_27, e_88_30, e_88_31, e_88_34, e_88_35, Option.bind_some, Option.bind_none, m_kt, m_kn, Option.toList_some, Option.toList_none, List.nil_append, List.cons_append, List.append_nil, ltn, ite_not, ↓reduceIte, true_or, or_true, nP1, oI_s, oI_n, bI_f, bI_t, i1_0, i0_0, Bool.false_eq_true, not_true_eq_false, not_false_eq_true, gT1 K, n1, gT0 K, ab_n e50 (show i < 400 by omega) (by decide), c1, c2, c3, z01, o01, decide_true, decide_false, Bool.and_true, Bool.and_false, Bool.true_and, Bool.false_and]
  · have n1 : nI l ≤ nI i := nI_le (by omega) (by omega)
    simp only [e_88_0, e_88_1, e_88_2, e_88_5, e_88_8, e_88_9, e_88_12, e_88_13, e_88_14, e_88_16, e_88_19, e_88_20, e_88_23, e_88_24, e_88_25, e_88_27, e_88_30, e_88_31, e_88_34, e_88_35, Option.bind_some, Option.bind_none, m_kt, m_kn, Option.toList_some, Option.toList_none, List.nil_append, List.cons_append, List.append_nil, ltn, ite_not, ↓reduceIte, true_or, or_true, nP1, oI_s, oI_n, bI_f, bI_t, i1_0, i0_0, Bool.false_eq_true, not_true_eq_false, not_false_eq_true, gT1 K, n1, c1, z01, decide_false, Bool.false_and]
theorem isEnd_ev (O : mO) (d : Nat) (K : h.1[49]? = some (oT (nI l) (nI p) t w)) (e50 : h.1[50]? = some (aB 400 B)) (hl : l ≤ 400) (hpl : p ≤ l) : ev O (d + 1) 80 0 [.ref 49] [] h = some (.inl (some (.int (bI (decide (sb B l p = l))))), hp h l (sb B l p) t w) := by
  have h1 := sb_le (B := B) hpl
  have K1 := hp_at K (sb B l p) t w
  by_cases c : sb B l p = l
  · have n1 : nI l ≤ nI (sb B l p) := nI_le (by omega) (by omega)
    rw [decide_eq_true c]
    simp only [e_80_0, e_80_1, e_80_4, e_80_5, e_80_8, e_80_9, e_80_12, e_80_15, e_80_16, e_80_19, e_80_20, Option.bind_some, Option.bind_none, m_kt, m_kn, Option.toList_some, Option.toList_none, List.nil_append, List.cons_append, List.append_nil, ltn, ite_not, ↓reduceIte, true_or, or_true, nP1, oI_s, oI_n, bI_f, bI_t, i1_0, i0_0, Bool.false_eq_true, not_true_eq_false, not_false_eq_true, iscT K, skipB_ev O d K e50 hl hpl, gT2 K1, gT1 K1, n1, o01]
  · have n1 : ¬ nI l ≤ nI (sb B l p) := nI_ge (by omega) (by omega)
    rw [decide_eq_false c]
    simp only [e_80_0, e_80_1, e_80_4, e_80_5, e_80_8, e_80_9, e_80_12, e_80_15, e_80_16, e_80_19, e_80_20, Option.bind_some, Option.bind_none, m_kt, m_kn, Option.toList_some, Option.toList_none, List.nil_append, List.cons_append, List.append_nil, ltn, ite_not, ↓reduceIte, true_or, or_true, nP1, oI_s, oI_n, bI_f, bI_t, i1_0, i0_0, Bool.false_eq_true, not_true_eq_false, not_false_eq_true, iscT K, skipB_ev O d K e50 hl hpl, gT2 K1, gT1 K1, n1, z01]
theorem takeSign_ev (O : mO) (d : Nat) (K : h.1[49]? = some (oT (nI l) (nI p) t w)) (e50 : h.1[50]? = some (aB 400 B)) (hl : l ≤ 400) (hpl : p ≤ l) (c : Int32) : ev O (d + 1) 81 0 [.ref 49, .int c] [] h = if sg B l p c = true then some (.inl (some (.int (1))), hp h l (sb B l p + 1) (nI (sb B l p)) w) else some (.inl (some (.int (0))), hp h l (sb B l p) t w) := by
  have h1 := sb_le (B := B) hpl
  have K1 := hp_at K (sb B l p) t w
  have K2 := hp_at K (sb B l p) (nI (sb B l p)) w
  have e1 := hp_50 (l := l) e50 (sb B l p) t w
  unfold sg
  by_cases c1 : sb B l p < l
  · have n1 : ¬ nI l ≤ nI (sb B l p) := nI_ge (by omega) (by omega)
    by_cases c2 : B (sb B l p) = c
    · rw [decide_eq_true c1, decide_eq_true c2]
      simp only [e_81_0, e_81_1, e_81_4, e_81_5, e_81_8, e_81_9, e_81_12, e_81_15, e_81_16, e_81_19, e_81_20, e_81_23, e_81_24, e_81_25, e_81_28, e_81_29, e_81_30, e_81_31, e_81_32, e_81_35, e_81_38, e_81_39, e_81_40, e_81_43, e_81_44, e_81_45, e_81_48, e_81_49, Option.bind_some, Option.bind_none, m_kt, m_kn, Option.toList_some, Option.toList_none, List.nil_append, List.cons_append, List.append_nil, ltn, ite_not, ↓reduceIte, true_or, or_true, nP1, oI_s, oI_n, bI_f, bI_t, i1_0, i0_0, Bool.false_eq_true, not_true_eq_false, not_false_eq_true, iscT K, skipB_ev O d K e50 hl hpl, gT2 K1, gT1 K1, n1, gT0 K1, ab_n e1 (show sb B l p < 400 by omega) (by decide), c2, pp3 K1, hp_hp, cat_i, gT2 K2, pp2 K2, o01, Bool.and_self]
    · rw [decide_eq_true c1, decide_eq_false c2]
      simp only [e_81_0, e_81_1, e_81_4, e_81_5, e_81_8, e_81_9, e_81_12, e_81_15, e_81_16, e_81_19, e_81_20, e_81_23, e_81_24, e_81_25, e_81_28, e_81_29, e_81_30, e_81_31, e_81_32, e_81_35, e_81_38, e_81_39, e_81_40, e_81_43, e_81_44, e_81_45, e_81_48, e_81_49, Option.bind_some, Option.bind_none, m_kt, m_kn, Option.toList_some, Option.toList_none, List.nil_append, List.cons_append, List.append_nil, ltn, ite_not, ↓reduceIte, true_or, or_true, nP1, oI_s, oI_n, bI_f, bI_t, i1_0, i0_0, Bool.false_eq_true, not_true_eq_false, not_false_eq_true, iscT K, skipB_ev O d K e50 hl hpl, gT2 K1, gT1 K1, n1, gT0 K1, ab_n e1 (show sb B l p < 400 by omega) (by decide), c2, z01, Bool.and_false]
  · have n1 : nI l ≤ nI (sb B l p) := nI_le (by omega) (by omega)
    rw [decide_eq_false c1]
    simp only [e_81_0, e_81_1, e_81_4, e_81_5, e_81_8, e_81_9, e_81_12, e_81_15, e_81_16, e_81_19, e_81_20, e_81_23, e_81_24, e_81_25, e_81_28, e_81_29, e_81_30, e_81_31, e_81_32, e_81_35, e_81_38, e_81_39, e_81_40, e_81_43, e_81_44, e_81_45, e_81_48, e_81_49, Option.bind_some, Option.bind_none, m_kt, m_kn, Option.toList_some, Option.toList_none, List.nil_append, List.cons_append, List.append_nil, ltn, ite_not, ↓reduceIte, true_or, or_true, nP1, oI_s, oI_n, bI_f, bI_t, i1_0, i0_0, Bool.false_eq_true, not_true_eq_false, not_false_eq_true, iscT K, skipB_ev O d K e50 hl hpl, gT2 K1, gT1 K1, n1, z01, Bool.false_and]
theorem takeWord_ev (O : mO) (d : Nat) (K : h.1[49]? = some (oT (nI l) (nI p) t w)) (e50 : h.1[50]? = some (aB 400 B)) (hl : l ≤ 400) (hpl : p ≤ l) {k : Nat} {s : List Nat} (X : TX O k s) (L : low s) : ev O (d + 5) 82 0 [.ref 49, .retAddr k, mJ, mJ] [] h = if wd B l (sb B l p) s = true then some (.inl (some (.int (1))), hp h l (sb B l p + s.length) (nI (sb B l p)) w) else some (.inl (some (.int (0))), hp h l (sb B l p) t w) := by
  have h1 := sb_le (B := B) hpl
  have K1 := hp_at K (sb B l p) t w
  have e1 := hp_50 (l := l) e50 (sb B l p) t w
  have K2 := hp_at K (sb B l p) (nI (sb B l p)) w
  have sl := L.2.1
  unfold wd
  by_cases c1 : sb B l p + s.length ≤ l
  · have n1 : nI (sb B l p + s.length) ≤ nI l := nI_le (by omega) (by omega)
    cases c2 : ltr B l (sb B l p + s.length)
    · have e := fd_run (F := fun i => ev O (d + 5) 82 39 [.ref 49, .retAddr k, .int (nI s.length), .int (nI i)] [] (hp h l (sb B l p) t w)) (c := fun i => !decide (B (sb B l p + i) = nI (s.getD i 0))) (n := s.length) (r := fun _ => some (.inl (some (.int (0))), hp h l (sb B l p) t w)) (fun i hi => by
        have n2 : ¬ nI s.length ≤ nI i := nI_ge hi (by omega)
        rw [e_82_39]
        by_cases c3 : B (sb B l p + i) = nI (s.getD i 0) <;> simp only [e_82_0, e_82_1, e_82_4, e_82_5, e_82_8, e_82_9, e_82_10, e_82_13, e_82_14, e_82_15, e_82_16, e_82_19, e_82_22, e_82_23, e_82_24, e_82_27, e_82_28, e_82_29, e_82_32, e_82_35, e_82_36, e_82_37, e_82_38, e_82_40, e_82_41, e_82_44, e_82_45, e_82_48, e_82_49, e_82_52, e_82_53, e_82_54, e_82_55, e_82_56, e_82_57, e_82_60, e_82_63, e_82_64, e_82_65, e_82_68, e_82_71, e_82_72, e_82_73, e_82_76, e_82_79, e_82_80, e_82_81, e_82_84, e_82_85, e_82_86, e_82_89, e_82_90, Option.bind_some, Option.bind_none, m_kt, m_kn, Option.toList_some, Option.toList_none, List.nil_append, List.cons_append, List.append_nil, ltn, ite_not, ↓reduceIte, true_or, or_true, nP1, oI_s, oI_n, bI_f, bI_t, i1_0, i0_0, Bool.false_eq_true, not_true_eq_false, not_false_eq_true, n2, gT0 K1, gT2 K1, nA, ab_n e1 (show sb B l p + i < 400 by omega) (by decide), X.1, charAt_ev O d _ X L hi, c3, z01, decide_true, decide_false, Bool.not_true, Bool.not_false])
      simp only [nI_0] at e
      unfold mat
      have e0 : ev O (d + 5) 82 0 [.ref 49, .retAddr k, mJ, mJ] [] h = ev O (d + 5) 82 39 [.ref 49, .retAddr k, .int (nI s.length), .int 0] [] (hp h l (sb B l p) t w) := by
        simp only [e_82_0, e_82_1, e_82_4, e_82_5, e_82_8, e_82_9, e_82_10, e_82_13, e_82_14, e_82_15, e_82_16, e_82_19, e_82_22, e_82_23, e_82_24, e_82_27, e_82_28, e_82_29, e_82_32, e_82_35, e_82_36, e_82_37, e_82_38, e_82_40, e_82_41, e_82_44, e_82_45, e_82_48, e_82_49, e_82_52, e_82_53, e_82_54, e_82_55, e_82_56, e_82_57, e_82_60, e_82_63, e_82_64, e_82_65, e_82_68, e_82_71, e_82_72, e_82_73, e_82_76, e_82_79, e_82_80, e_82_81, e_82_84, e_82_85, e_82_86, e_82_89, e_82_90, Option.bind_some, Option.bind_none, m_kt, m_kn, Option.toList_some, Option.toList_none, List.nil_append, List.cons_append, List.append_nil, ltn, ite_not, ↓reduceIte, true_or, or_true, nP1, oI_s, oI_n, bI_f, bI_t, i1_0, i0_0, Bool.false_eq_true, not_true_eq_false, not_false_eq_true, iscT K, skipB_ev O (d + 4) K e50 hl hpl, X.1, len_ev O (d + 3) _ X, gT2 K1, gT1 K1, nA, n1, iscT K1, isLetter_ev O (d + 4) K1 e1 hl (show sb B l p + s.length < 1000 by omega), c2]
      rw [e0, e, decide_eq_true c1]
      cases hf : fd (fun i => !decide (B (sb B l p + i) = nI (s.getD i 0))) s.length with
      | some i => simp
      | none =>
        simp only [Option.isNone_none, Bool.not_false, Bool.and_self, ↓reduceIte]
        rw [e_82_39]
        simp only [e_82_0, e_82_1, e_82_4, e_82_5, e_82_8, e_82_9, e_82_10, e_82_13, e_82_14, e_82_15, e_82_16, e_82_19, e_82_22, e_82_23, e_82_24, e_82_27, e_82_28, e_82_29, e_82_32, e_82_35, e_82_36, e_82_37, e_82_38, e_82_40, e_82_41, e_82_44, e_82_45, e_82_48, e_82_49, e_82_52, e_82_53, e_82_54, e_82_55, e_82_56, e_82_57, e_82_60, e_82_63, e_82_64, e_82_65, e_82_68, e_82_71, e_82_72, e_82_73, e_82_76, e_82_79, e_82_80, e_82_81, e_82_84, e_82_85, e_82_86, e_82_89, e_82_90, Option.bind_some, Option.bind_none, m_kt, m_kn, Option.toList_some, Option.toList_none, List.nil_append, List.cons_append, List.append_nil, ltn, ite_not, ↓reduceIte, true_or, or_true, nP1, oI_s, oI_n, bI_f, bI_t, i1_0, i0_0, Bool.false_eq_true, not_true_eq_false, not_false_eq_true, Int32.le_refl, gT2 K1, pp3 K1, hp_hp, cat_i, gT2 K2, nA, pp2 K2, o01]
    · simp only [e_82_0, e_82_1, e_82_4, e_82_5, e_82_8, e_82_9, e_82_10, e_82_13, e_82_14, e_82_15, e_82_16, e_82_19, e_82_22, e_82_23, e_82_24, e_82_27, e_82_28, e_82_29, e_82_32, e_82_35, e_82_36, e_82_37, e_82_38, e_82_40, e_82_41, e_82_44, e_82_45, e_82_48, e_82_49, e_82_52, e_82_53, e_82_54, e_82_55, e_82_56, e_82_57, e_82_60, e_82_63, e_82_64, e_82_65, e_82_68, e_82_71, e_82_72, e_82_73, e_82_76, e_82_79, e_82_80, e_82_81, e_82_84, e_82_85, e_82_86, e_82_89, e_82_90, Option.bind_some, Option.bind_none, m_kt, m_kn, Option.toList_some, Option.toList_none, List.nil_append, List.cons_append, List.append_nil, ltn, ite_not, ↓reduceIte, true_or, or_true, nP1, oI_s, oI_n, bI_f, bI_t, i1_0, i0_0, Bool.false_eq_true, not_true_eq_false, not_false_eq_true, iscT K, skipB_ev O (d + 4) K e50 hl hpl, X.1, len_ev O (d + 3) _ X, gT2 K1, gT1 K1, nA, n1, iscT K1, isLetter_ev O (d + 4) K1 e1 hl (show sb B l p + s.length < 1000 by omega), c2, z01, Bool.not_true, Bool.and_false, Bool.false_and]
  · have n1 : ¬ nI (sb B l p + s.length) ≤ nI l := nI_ge (by omega) (by omega)
    rw [decide_eq_false c1]
    simp only [e_82_0, e_82_1, e_82_4, e_82_5, e_82_8, e_82_9, e_82_10, e_82_13, e_82_14, e_82_15, e_82_16, e_82_19, e_82_22, e_82_23, e_82_24, e_82_27, e_82_28, e_82_29, e_82_32, e_82_35, e_82_36, e_82_37, e_82_38, e_82_40, e_82_41, e_82_44, e_82_45, e_82_48, e_82_49, e_82_52, e_82_53, e_82_54, e_82_55, e_82_56, e_82_57, e_82_60, e_82_63, e_82_64, e_82_65, e_82_68, e_82_71, e_82_72, e_82_73, e_82_76, e_82_79, e_82_80, e_82_81, e_82_84, e_82_85, e_82_86, e_82_89, e_82_90, Option.bind_some, Option.bind_none, m_kt, m_kn, Option.toList_some, Option.toList_none, List.nil_append, List.cons_append, List.append_nil, ltn, ite_not, ↓reduceIte, true_or, or_true, nP1, oI_s, oI_n, bI_f, bI_t, i1_0, i0_0, Bool.false_eq_true, not_true_eq_false, not_false_eq_true, iscT K, skipB_ev O (d + 4) K e50 hl hpl, X.1, len_ev O (d + 3) _ X, gT2 K1, gT1 K1, nA, n1, z01, Bool.false_and]
theorem takeNumber_ev (O : mO) (d : Nat) (K : h.1[49]? = some (oT (nI l) (nI p) t w)) (e50 : h.1[50]? = some (aB 400 B)) (hl : l ≤ 400) (hpl : p ≤ l) (lo hi : Int32) : ev O (d + 1) 83 0 [.ref 49, .int lo, .int hi, mJ, mJ] [] h = (num B l p lo hi).elim (some (.inl (some (.int (-1))), hp h l (sb B l p) t (nI (sb B l p)))) (fun x => some (.inl (some (.int (x.1))), hp h l x.2 t w)) := by
  have h1 := sb_le (B := B) hpl
  have K1 := hp_at K (sb B l p) t w
  have e1 := hp_50 (l := l) e50 (sb B l p) t w
  obtain ⟨a1, a2, a3⟩ := ndg_all B l (sb B l p)
  have e0 : ev O (d + 1) 83 0 [.ref 49, .int lo, .int hi, mJ, mJ] [] h = ev O (d + 1) 83 9 [.ref 49, .int lo, .int hi, .int 0, .int 0] [] (hp h l (sb B l p) t w) := by
    simp only [e_83_0, e_83_1, e_83_4, e_83_5, e_83_6, e_83_7, e_83_11, e_83_12, e_83_15, e_83_16, e_83_17, e_83_20, e_83_22, e_83_23, e_83_26, e_83_29, e_83_31, e_83_32, e_83_33, e_83_34, e_83_37, e_83_38, e_83_41, e_83_43, e_83_44, e_83_45, e_83_46, e_83_48, e_83_49, e_83_50, e_83_53, e_83_56, e_83_58, e_83_61, e_83_63, e_83_64, e_83_67, e_83_68, e_83_69, e_83_72, e_83_73, e_83_74, e_83_77, e_83_78, e_83_79, e_83_82, e_83_85, e_83_86, e_83_87, e_83_88, e_83_89, e_83_92, e_83_94, e_83_95, e_83_98, e_83_99, Option.bind_some, Option.bind_none, m_kt, m_kn, Option.toList_some, Option.toList_none, List.nil_append, List.cons_append, List.append_nil, ltn, ite_not, ↓reduceIte, true_or, or_true, nP1, oI_s, oI_n, bI_f, bI_t, i1_0, i0_0, Bool.false_eq_true, not_true_eq_false, not_false_eq_true, iscT K, skipB_ev O d K e50 hl hpl]
  have e := lp_run (F := fun i v => ev O (d + 1) 83 9 [.ref 49, .int lo, .int hi, .int v, .int (nI i)] [] (hp h l (sb B l p) t w)) (f := fun i v => 10 * v + B (sb B l p + i) - 48) (n := ndg B l (sb B l p)) (fun i v hi => by
    have n1 : nI i ≤ 3 := nI_le (b := 3) (by omega) (by omega)
    have dg := a2 i hi
    have lt := (dgt_n dg).1
    rw [e_83_9]
    simp only [e_83_0, e_83_1, e_83_4, e_83_5, e_83_6, e_83_7, e_83_11, e_83_12, e_83_15, e_83_16, e_83_17, e_83_20, e_83_22, e_83_23, e_83_26, e_83_29, e_83_31, e_83_32, e_83_33, e_83_34, e_83_37, e_83_38, e_83_41, e_83_43, e_83_44, e_83_45, e_83_46, e_83_48, e_83_49, e_83_50, e_83_53, e_83_56, e_83_58, e_83_61, e_83_63, e_83_64, e_83_67, e_83_68, e_83_69, e_83_72, e_83_73, e_83_74, e_83_77, e_83_78, e_83_79, e_83_82, e_83_85, e_83_86, e_83_87, e_83_88, e_83_89, e_83_92, e_83_94, e_83_95, e_83_98, e_83_99, Option.bind_some, Option.bind_none, m_kt, m_kn, Option.toList_some, Option.toList_none, List.nil_append, List.cons_append, List.append_nil, ltn, ite_not, ↓reduceIte, true_or, or_true, nP1, oI_s, oI_n, bI_f, bI_t, i1_0, i0_0, Bool.false_eq_true, not_true_eq_false, not_false_eq_true, n1, gT2 K1, nA, iscT K1, isDigit_ev O d K1 e1 hl (show sb B l p + i < 1000 by omega), dg, gT0 K1, ab_n e1 (show sb B l p + i < 400 by omega) (by decide)]) 0
  have vle : ∀ k, lp (fun i v => 10 * v + B (sb B l p + i) - 48) k 0 = vlu B (sb B l p) k := by
    intro k
    induction k with
    | zero => rfl
    | succ k ih => rw [lp_s, ih]; rfl
  rw [vle, nI_0] at e
  have e2 : ∀ v, ev O (d + 1) 83 9 [.ref 49, .int lo, .int hi, .int v, .int (nI (ndg B l (sb B l p)))] [] (hp h l (sb B l p) t w) = ev O (d + 1) 83 56 [.ref 49, .int lo, .int hi, .int v, .int (nI (ndg B l (sb B l p)))] [] (hp h l (sb B l p) t w) := fun v => by
    rw [e_83_9]
    by_cases z : ndg B l (sb B l p) = 4
    · have n1 : ¬ nI (ndg B l (sb B l p)) ≤ 3 := nI_ge (a := 3) (by omega) (by omega)
      simp only [e_83_0, e_83_1, e_83_4, e_83_5, e_83_6, e_83_7, e_83_11, e_83_12, e_83_15, e_83_16, e_83_17, e_83_20, e_83_22, e_83_23, e_83_26, e_83_29, e_83_31, e_83_32, e_83_33, e_83_34, e_83_37, e_83_38, e_83_41, e_83_43, e_83_44, e_83_45, e_83_46, e_83_48, e_83_49, e_83_50, e_83_53, e_83_58, e_83_61, e_83_63, e_83_64, e_83_67, e_83_68, e_83_69, e_83_72, e_83_73, e_83_74, e_83_77, e_83_78, e_83_79, e_83_82, e_83_85, e_83_86, e_83_87, e_83_88, e_83_89, e_83_92, e_83_94, e_83_95, e_83_98, e_83_99, Option.bind_some, Option.bind_none, m_kt, m_kn, Option.toList_some, Option.toList_none, List.nil_append, List.cons_append, List.append_nil, ltn, ite_not, ↓reduceIte, true_or, or_true, nP1, oI_s, oI_n, bI_f, bI_t, i1_0, i0_0, Bool.false_eq_true, not_true_eq_false, not_false_eq_true, n1]
    · have n1 : nI (ndg B l (sb B l p)) ≤ 3 := nI_le (b := 3) (by omega) (by omega)
      have dg := a3 (by omega)
      simp only [e_83_0, e_83_1, e_83_4, e_83_5, e_83_6, e_83_7, e_83_11, e_83_12, e_83_15, e_83_16, e_83_17, e_83_20, e_83_22, e_83_23, e_83_26, e_83_29, e_83_31, e_83_32, e_83_33, e_83_34, e_83_37, e_83_38, e_83_41, e_83_43, e_83_44, e_83_45, e_83_46, e_83_48, e_83_49, e_83_50, e_83_53, e_83_58, e_83_61, e_83_63, e_83_64, e_83_67, e_83_68, e_83_69, e_83_72, e_83_73, e_83_74, e_83_77, e_83_78, e_83_79, e_83_82, e_83_85, e_83_86, e_83_87, e_83_88, e_83_89, e_83_92, e_83_94, e_83_95, e_83_98, e_83_99, Option.bind_some, Option.bind_none, m_kt, m_kn, Option.toList_some, Option.toList_none, List.nil_append, List.cons_append, List.append_nil, ltn, ite_not, ↓reduceIte, true_or, or_true, nP1, oI_s, oI_n, bI_f, bI_t, i1_0, i0_0, Bool.false_eq_true, not_true_eq_false, not_false_eq_true, n1, gT2 K1, nA, iscT K1, isDigit_ev O d K1 e1 hl (show sb B l p + ndg B l (sb B l p) < 1000 by omega), dg]
  rw [e0, e, e2]
  unfold num
  generalize ndg B l (sb B l p) = k at *
  by_cases z0 : k = 0
  · subst z0
    rw [if_neg (fun q => by omega)]
    simp only [e_83_0, e_83_1, e_83_4, e_83_5, e_83_6, e_83_7, e_83_11, e_83_12, e_83_15, e_83_16, e_83_17, e_83_20, e_83_22, e_83_23, e_83_26, e_83_29, e_83_31, e_83_32, e_83_33, e_83_34, e_83_37, e_83_38, e_83_41, e_83_43, e_83_44, e_83_45, e_83_46, e_83_48, e_83_49, e_83_50, e_83_53, e_83_56, e_83_58, e_83_61, e_83_63, e_83_64, e_83_67, e_83_68, e_83_69, e_83_72, e_83_73, e_83_74, e_83_77, e_83_78, e_83_79, e_83_82, e_83_85, e_83_86, e_83_87, e_83_88, e_83_89, e_83_92, e_83_94, e_83_95, e_83_98, e_83_99, Option.bind_some, Option.bind_none, m_kt, m_kn, Option.toList_some, Option.toList_none, List.nil_append, List.cons_append, List.append_nil, ltn, ite_not, ↓reduceIte, true_or, or_true, nP1, oI_s, oI_n, bI_f, bI_t, i1_0, i0_0, Bool.false_eq_true, not_true_eq_false, not_false_eq_true, nI_0, gT2 K1, pp4 K1, hp_hp, Option.elim_none]
  · have n0 : ¬ nI k = 0 := nI_ne0 (by omega) (by omega)
    by_cases z3 : k ≤ 3
    · have n1 : nI k ≤ 3 := nI_le (b := 3) (by omega) (by omega)
      by_cases c1 : lo ≤ vlu B (sb B l p) k
      · by_cases c2 : vlu B (sb B l p) k ≤ hi
        · rw [if_pos ⟨⟨by omega, z3⟩, c1, c2⟩]
          simp only [e_83_0, e_83_1, e_83_4, e_83_5, e_83_6, e_83_7, e_83_11, e_83_12, e_83_15, e_83_16, e_83_17, e_83_20, e_83_22, e_83_23, e_83_26, e_83_29, e_83_31, e_83_32, e_83_33, e_83_34, e_83_37, e_83_38, e_83_41, e_83_43, e_83_44, e_83_45, e_83_46, e_83_48, e_83_49, e_83_50, e_83_53, e_83_56, e_83_58, e_83_61, e_83_63, e_83_64, e_83_67, e_83_68, e_83_69, e_83_72, e_83_73, e_83_74, e_83_77, e_83_78, e_83_79, e_83_82, e_83_85, e_83_86, e_83_87, e_83_88, e_83_89, e_83_92, e_83_94, e_83_95, e_83_98, e_83_99, Option.bind_some, Option.bind_none, m_kt, m_kn, Option.toList_some, Option.toList_none, List.nil_append, List.cons_append, List.append_nil, ltn, ite_not, ↓reduceIte, true_or, or_true, nP1, oI_s, oI_n, bI_f, bI_t, i1_0, i0_0, Bool.false_eq_true, not_true_eq_false, not_false_eq_true, n0, n1, c1, c2, cat_i, gT2 K1, nA, pp2 K1, hp_hp, Option.elim_some]
        · rw [if_neg (fun q => c2 q.2.2)]
          simp only [e_83_0, e_83_1, e_83_4, e_83_5, e_83_6, e_83_7, e_83_11, e_83_12, e_83_15, e_83_16, e_83_17, e_83_20, e_83_22, e_83_23, e_83_26, e_83_29, e_83_31, e_83_32, e_83_33, e_83_34, e_83_37, e_83_38, e_83_41, e_83_43, e_83_44, e_83_45, e_83_46, e_83_48, e_83_49, e_83_50, e_83_53, e_83_56, e_83_58, e_83_61, e_83_63, e_83_64, e_83_67, e_83_68, e_83_69, e_83_72, e_83_73, e_83_74, e_83_77, e_83_78, e_83_79, e_83_82, e_83_85, e_83_86, e_83_87, e_83_88, e_83_89, e_83_92, e_83_94, e_83_95, e_83_98, e_83_99, Option.bind_some, Option.bind_none, m_kt, m_kn, Option.toList_some, Option.toList_none, List.nil_append, List.cons_append, List.append_nil, ltn, ite_not, ↓reduceIte, true_or, or_true, nP1, oI_s, oI_n, bI_f, bI_t, i1_0, i0_0, Bool.false_eq_true, not_true_eq_false, not_false_eq_true, n0, n1, c1, c2, gT2 K1, pp4 K1, hp_hp, Option.elim_none]
      · rw [if_neg (fun q => c1 q.2.1)]
        simp only [e_83_0, e_83_1, e_83_4, e_83_5, e_83_6, e_83_7, e_83_11, e_83_12, e_83_15, e_83_16, e_83_17, e_83_20, e_83_22, e_83_23, e_83_26, e_83_29, e_83_31, e_83_32, e_83_33, e_83_34, e_83_37, e_83_38, e_83_41, e_83_43, e_83_44, e_83_45, e_83_46, e_83_48, e_83_49, e_83_50, e_83_53, e_83_56, e_83_58, e_83_61, e_83_63, e_83_64, e_83_67, e_83_68, e_83_69, e_83_72, e_83_73, e_83_74, e_83_77, e_83_78, e_83_79, e_83_82, e_83_85, e_83_86, e_83_87, e_83_88, e_83_89, e_83_92, e_83_94, e_83_95, e_83_98, e_83_99, Option.bind_some, Option.bind_none, m_kt, m_kn, Option.toList_some, Option.toList_none, List.nil_append, List.cons_append, List.append_nil, ltn, ite_not, ↓reduceIte, true_or, or_true, nP1, oI_s, oI_n, bI_f, bI_t, i1_0, i0_0, Bool.false_eq_true, not_true_eq_false, not_false_eq_true, n0, n1, c1, gT2 K1, pp4 K1, hp_hp, Option.elim_none]
    · have n1 : ¬ nI k ≤ 3 := nI_ge (a := 3) (by omega) (by omega)
      rw [if_neg (fun q => z3 q.1.2)]
      simp only [e_83_0, e_83_1, e_83_4, e_83_5, e_83_6, e_83_7, e_83_11, e_83_12, e_83_15, e_83_16, e_83_17, e_83_20, e_83_22, e_83_23, e_83_26, e_83_29, e_83_31, e_83_32, e_83_33, e_83_34, e_83_37, e_83_38, e_83_41, e_83_43, e_83_44, e_83_45, e_83_46, e_83_48, e_83_49, e_83_50, e_83_53, e_83_56, e_83_58, e_83_61, e_83_63, e_83_64, e_83_67, e_83_68, e_83_69, e_83_72, e_83_73, e_83_74, e_83_77, e_83_78, e_83_79, e_83_82, e_83_85, e_83_86, e_83_87, e_83_88, e_83_89, e_83_92, e_83_94, e_83_95, e_83_98, e_83_99, Option.bind_some, Option.bind_none, m_kt, m_kn, Option.toList_some, Option.toList_none, List.nil_append, List.cons_append, List.append_nil, ltn, ite_not, ↓reduceIte, true_or, or_true, nP1, oI_s, oI_n, bI_f, bI_t, i1_0, i0_0, Bool.false_eq_true, not_true_eq_false, not_false_eq_true, n0, n1, gT2 K1, pp4 K1, hp_hp, Option.elim_none]
theorem refuseNext_ev (O : mO) (d : Nat) (K : h.1[49]? = some (oT (nI l) (nI p) t w)) (e50 : h.1[50]? = some (aB 400 B)) (hl : l ≤ 400) (hpl : p ≤ l) : ev O (d + 1) 84 0 [.ref 49] [] h = some (.inl (some (.int (0))), hp h l (sb B l p) t (nI (sb B l p))) := by
  have K1 := hp_at K (sb B l p) t w
  simp only [e_84_0, e_84_1, e_84_4, e_84_5, e_84_6, e_84_9, e_84_12, e_84_13, Option.bind_some, Option.bind_none, m_kt, m_kn, Option.toList_some, Option.toList_none, List.nil_append, List.cons_append, List.append_nil, ltn, ite_not, ↓reduceIte, true_or, or_true, nP1, oI_s, oI_n, bI_f, bI_t, i1_0, i0_0, Bool.false_eq_true, not_true_eq_false, not_false_eq_true, iscT K, skipB_ev O d K e50 hl hpl, gT2 K1, pp4 K1, hp_hp, z01]
theorem refuseTaken_ev (O : mO) (d : Nat) (K : h.1[49]? = some (oT (nI l) (nI p) t w)) : ev O (d) 85 0 [.ref 49] [] h = some (.inl (some (.int (0))), hp h l p t t) := by
  simp only [e_85_0, e_85_1, e_85_2, e_85_5, e_85_8, e_85_9, Option.bind_some, Option.bind_none, m_kt, m_kn, Option.toList_some, Option.toList_none, List.nil_append, List.cons_append, List.append_nil, ltn, ite_not, ↓reduceIte, true_or, or_true, nP1, oI_s, oI_n, bI_f, bI_t, i1_0, i0_0, Bool.false_eq_true, not_true_eq_false, not_false_eq_true, gT3 K, pp4 K, z01]
end TapeC
