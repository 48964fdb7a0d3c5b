/-! A way through the city -/
def xS (w g : Nat) (fr : Int32) : Nat → Int32
  | 0 => fr &&& 1
  | n + 1 => arS w g (xS w g fr n) &&& fr
def wyB (w g : Nat) (fr : Int32) : Bool := bt (xS w g fr 30) (w * g - 1)
section Way
variable {w g : Nat} {fr : Int32}
theorem x_in : ∀ n, le32 (xS w g fr n) fr
  | 0 => fun i hi b => by rw [xS, b_and, Bool.and_eq_true] at b; exact b.1
  | n + 1 => fun i hi b => by rw [xS, b_and, Bool.and_eq_true] at b; exact b.2
theorem x_sub (hs : sub (w * g) fr) : ∀ n, sub (w * g) (xS w g fr n)
  | 0 => sub_and hs
  | n + 1 => sub_and' hs
theorem x_up (n : Nat) : le32 (xS w g fr n) (xS w g fr (n + 1)) := fun i hi b => by
  rw [xS, b_and, Bool.and_eq_true]
  refine ⟨?_, x_in n i hi b⟩
  unfold arS
  rw [b_or, b]; rfl
theorem x_le {n k : Nat} (h : n ≤ k) : le32 (xS w g fr n) (xS w g fr k) := by
  induction h with
  | refl => exact fun _ _ b => b
  | step _ ih => exact fun i hi b => x_up _ i hi (ih i hi b)
theorem x_st {n : Nat} (h : xS w g fr (n + 1) = xS w g fr n) : ∀ k, xS w g fr (n + k) = xS w g fr n
  | 0 => rfl
  | k + 1 => by
    have ih := x_st h k
    rw [show n + (k + 1) = (n + k) + 1 from rfl, xS, ih, ← xS]
    exact h
theorem x_ct (hN : w * g ≤ 30) (hs : sub (w * g) fr) : ∀ k, (∀ n, n ≤ k → xS w g fr (n + 1) ≠ xS w g fr n) → k + 1 ≤ fb_ct (bt (xS w g fr (k + 1))) (w * g)
  | 0, h => by
    apply fb_ct_pos.mpr
    apply Classical.byContradiction
    intro q
    have z : ∀ i, i < 32 → bt (xS w g fr 1) i = false := fun i hi => by
      rcases Nat.lt_or_ge i (w * g) with c | c
      · cases e : bt (xS w g fr 1) i
        · rfl
        · exact absurd ⟨i, c, e⟩ q
      · exact x_sub hs 1 i hi c
    apply h 0 (Nat.le_refl _)
    apply b_ext
    intro i hi
    rw [z i hi]
    cases e : bt (xS w g fr 0) i
    · rfl
    · rw [← z i hi]; exact (x_up 0 i hi e)
  | k + 1, h => by
    have ih := x_ct hN hs k (fun n hn => h n (by omega))
    have ne := h (k + 1) (Nat.le_refl _)
    -- one more is in it
    have ex : ∃ i, i < w * g ∧ bt (xS w g fr (k + 1)) i = false ∧ bt (xS w g fr (k + 2)) i = true := by
      apply Classical.byContradiction
      intro q
      apply ne
      apply b_ext
      intro i hi
      cases e : bt (xS w g fr (k + 1 + 1)) i
      · cases e2 : bt (xS w g fr (k + 1)) i
        · rfl
        · rw [x_up (k + 1) i hi e2] at e; cases e
      · cases e2 : bt (xS w g fr (k + 1)) i
        · rcases Nat.lt_or_ge i (w * g) with c | c
          · exact absurd ⟨i, c, e2, e⟩ q
          · rw [x_sub hs _ i hi c] at e; cases e
        · rfl
    obtain ⟨i, hi, e1, e2⟩ := ex
    have u := fb_ct_upd (bt (xS w g fr (k + 1))) true hi
    rw [e1] at u
    simp only [Bool.false_eq_true, ↓reduceIte] at u
    have l : fb_ct (fun r => if r = i then true else bt (xS w g fr (k + 1)) r) (w * g) ≤ fb_ct (bt (xS w g fr (k + 1 + 1))) (w * g) := fb_ct_sub (fun r hr b => by
      by_cases z : r = i
      · subst z; exact e2
      · rw [if_neg z] at b; exact x_up _ r (by omega) b)
    omega
theorem x_end (hN : w * g ≤ 30) (hs : sub (w * g) fr) : xS w g fr 31 = xS w g fr 30 := by
  apply Classical.byContradiction
  intro q
  have q1 : 31 ≤ fb_ct (bt (xS w g fr 31)) (w * g) := x_ct hN hs 30 (fun n hn e => by
    apply q
    have a := x_st e (30 - n)
    have b := x_st e (31 - n)
    rw [show n + (30 - n) = 30 by omega] at a
    rw [show n + (31 - n) = 31 by omega] at b
    rw [a, b])
  have := fb_ct_le (bt (xS w g fr 31)) (w * g)
  omega
theorem wy_mono (hw : w < 7) (hg : g < 6) (h1 : 1 ≤ w) (hN : w * g ≤ 30) {fr' : Int32} (hs : sub (w * g) fr) (hs' : sub (w * g) fr') (hp : 1 ≤ w * g) (h : le32 fr fr') (q : wyB w g fr = true) : wyB w g fr' = true := by
  have : ∀ n, le32 (xS w g fr n) (xS w g fr' n) := by
    intro n
    induction n with
    | zero =>
      intro i hi b
      rw [xS, b_and, Bool.and_eq_true] at *
      exact ⟨h i hi b.1, b.2⟩
    | succ n ih =>
      intro i hi b
      rw [xS, b_and, Bool.and_eq_true] at *
      refine ⟨?_, h i hi b.2⟩
      have b1 := b.1
      rw [bt_ar hw hg h1 hN (x_sub hs n) hi, Bool.or_eq_true, Bool.and_eq_true, decide_eq_true_eq] at b1
      rw [bt_ar hw hg h1 hN (x_sub hs' n) hi, Bool.or_eq_true, Bool.and_eq_true, decide_eq_true_eq]
      rcases b1 with c | c
      · exact .inl (ih i hi c)
      · exact .inr ⟨c.1, nb_mono h1 c.1 hN ih c.2⟩
  exact this 30 _ (by omega) q
/-- the ends are open where there is a way -/
theorem wy_ends (hp : 1 ≤ w * g) (hN : w * g ≤ 30) (q : wyB w g fr = true) : bt fr 0 = true ∧ bt fr (w * g - 1) = true := by
  refine ⟨?_, x_in 30 _ (by omega) q⟩
  cases e : bt fr 0 with
  | true => rfl
  | false =>
    have z : ∀ n, xS w g fr n = 0 := by
      intro n
      induction n with
      | zero =>
        apply b_ext
        intro i hi
        rw [xS, b_and, b_0]
        have e1 : ∀ j, j < 32 → bt (1 : Int32) j = decide (j = 0) := by decide +kernel
        rw [e1 i hi]
        by_cases c : i = 0
        · subst c; rw [e]; rfl
        · rw [decide_eq_false c, Bool.and_false]
      | succ n ih =>
        rw [xS, ih]
        have az : arS w g 0 = 0 := by
          apply b_ext
          intro i hi
          unfold arS abS
          have a : ∀ x : Int32, (0 : Int32) &&& x = 0 := fun x => by apply b_ext; intro i hi; rw [b_and, b_0, Bool.false_and]
          have b : ∀ x : Int32, (0 : Int32) <<< x = 0 := fun x => by
            apply Int32.toBitVec_inj.mp
            rw [Int32.toBitVec_shiftLeft]
            simp
          have c : ∀ x : Int32, (0 : Int32) >>> x = 0 := fun x => by
            apply Int32.toBitVec_inj.mp
            rw [Int32.toBitVec_shiftRight]
            simp
          rw [a, a, b, c, b, c]
          simp only [or_0, a]
        rw [az]
        apply b_ext; intro i hi; rw [b_and, b_0, Bool.false_and]
    unfold wyB at q
    rw [z, b_0] at q
    cases q
end Way
theorem and_shl0 {x : Int32} {p : Nat} (hp : p < 32) : (x &&& shl1 p = 0) = (bt x p = false) := by
  apply propext
  constructor
  · intro h
    have : bt (x &&& shl1 p) p = false := by rw [h, b_0]
    rw [b_and, bt_shl1 hp hp] at this
    simpa using this
  · intro h
    apply b_ext
    intro i hi
    rw [b_and, bt_shl1 hp hi, b_0]
    by_cases z : i = p
    · subst z; rw [h]; rfl
    · rw [decide_eq_false z, Bool.and_false]
section WayC
variable {h : mH} {a : Nat} {W : WD}
theorem isWay_ev (O : mO) (d : Nat) (H : CA h a W) (R : rng W) (fr : Int32) : ev O (d + 1) 67 0 [.ref a, .int fr, mJ, mJ, mJ, mJ] [] h = some (.inl (some (.int (bI (wyB (wN W) (gN W) fr)))), h) := by
  have hN := pN_le R
  have hP := pN_pos R
  have hl : (1 : Int32) <<< ((nI (pN W) - 1) &&& 31) = shl1 (pN W - 1) := by rw [n_1, pk_sub hP]; rfl
  have key : ∀ n i v, i + n = 30 → (∀ j, j ≤ i → 1 ≤ j → bt (xS (wN W) (gN W) fr j) (pN W - 1) = false) → ev O (d + 1) 67 16 [.ref a, .int fr, .int (shl1 (pN W - 1)), .int (xS (wN W) (gN W) fr i), .int (nI i), v] [] h = some (.inl (some (.int (bI (wyB (wN W) (gN W) fr)))), h) := by
    intro n
    induction n with
    | zero =>
      intro i v hi hf
      have : i = 30 := by omega
      subst this
      have e : wyB (wN W) (gN W) fr = false := hf 30 (by omega) (by omega)
      rw [e, e_67_16]
      simp only [e_67_0, e_67_1, e_67_2, e_67_5, e_67_6, e_67_7, e_67_8, e_67_9, e_67_10, e_67_11, e_67_12, e_67_13, e_67_14, e_67_18, e_67_20, e_67_23, e_67_24, e_67_25, e_67_26, e_67_29, e_67_30, e_67_31, e_67_32, e_67_34, e_67_36, e_67_37, e_67_38, e_67_41, e_67_42, e_67_43, e_67_45, e_67_46, e_67_49, e_67_50, e_67_51, e_67_53, e_67_54, e_67_57, e_67_60, e_67_61, Option.bind_some, Option.bind_none, m_kt, m_kn, Option.toList_some, Option.toList_none, List.nil_append, List.cons_append, List.append_nil, ltn, ite_not, ↓reduceIte, true_or, or_true, nP1, oI_s, oI_n, bI_f, bI_t, i1_0, i0_0, Bool.false_eq_true, not_true_eq_false, not_false_eq_true, (show ((30 : Int32) ≤ nI 30) = True by decide), z01]
    | succ n ih =>
      intro i v hi hf
      have h1 : ¬ (30 : Int32) ≤ nI i := nI_ge (b := 30) (by omega) (by omega)
      have ex : (xS (wN W) (gN W) fr i ||| abS (wN W) (gN W) (xS (wN W) (gN W) fr i)) &&& fr = xS (wN W) (gN W) fr (i + 1) := rfl
      rw [e_67_16]
      cases c : bt (xS (wN W) (gN W) fr (i + 1)) (pN W - 1)
      · by_cases c2 : xS (wN W) (gN W) fr (i + 1) = xS (wN W) (gN W) fr i
        · have e : wyB (wN W) (gN W) fr = false := by
            have a := x_st c2 (30 - i)
            rw [show i + (30 - i) = 30 by omega] at a
            unfold wyB
            rw [a, ← c2]; exact c
          rw [e]
          simp only [e_67_0, e_67_1, e_67_2, e_67_5, e_67_6, e_67_7, e_67_8, e_67_9, e_67_10, e_67_11, e_67_12, e_67_13, e_67_14, e_67_18, e_67_20, e_67_23, e_67_24, e_67_25, e_67_26, e_67_29, e_67_30, e_67_31, e_67_32, e_67_34, e_67_36, e_67_37, e_67_38, e_67_41, e_67_42, e_67_43, e_67_45, e_67_46, e_67_49, e_67_50, e_67_51, e_67_53, e_67_54, e_67_57, e_67_60, e_67_61, Option.bind_some, Option.bind_none, m_kt, m_kn, Option.toList_some, Option.toList_none, List.nil_append, List.cons_append, List.append_nil, ltn, ite_not, ↓reduceIte, true_or, or_true, nP1, oI_s, oI_n, bI_f, bI_t, i1_0, i0_0, Bool.false_eq_true, not_true_eq_false, not_false_eq_true, h1, H.isc, allBeside_ev O d H, ex, and_shl0 (show pN W - 1 < 32 by omega), c, eq_true c2, z01]
        · simp only [e_67_0, e_67_1, e_67_2, e_67_5, e_67_6, e_67_7, e_67_8, e_67_9, e_67_10, e_67_11, e_67_12, e_67_13, e_67_14, e_67_18, e_67_20, e_67_23, e_67_24, e_67_25, e_67_26, e_67_29, e_67_30, e_67_31, e_67_32, e_67_34, e_67_36, e_67_37, e_67_38, e_67_41, e_67_42, e_67_43, e_67_45, e_67_46, e_67_49, e_67_50, e_67_51, e_67_53, e_67_54, e_67_57, e_67_60, e_67_61, Option.bind_some, Option.bind_none, m_kt, m_kn, Option.toList_some, Option.toList_none, List.nil_append, List.cons_append, List.append_nil, ltn, ite_not, ↓reduceIte, true_or, or_true, nP1, oI_s, oI_n, bI_f, bI_t, i1_0, i0_0, Bool.false_eq_true, not_true_eq_false, not_false_eq_true, h1, H.isc, allBeside_ev O d H, ex, and_shl0 (show pN W - 1 < 32 by omega), c, c2]
          refine ih (i + 1) _ (by omega) (fun j hj h0 => ?_)
          by_cases z : j = i + 1
          · subst z; exact c
          · exact hf j (by omega) h0
      · have e : wyB (wN W) (gN W) fr = true := x_le (show i + 1 ≤ 30 by omega) _ (show wN W * gN W - 1 < 32 by have : wN W * gN W = pN W := rfl; omega) c
        rw [e]
        simp only [e_67_0, e_67_1, e_67_2, e_67_5, e_67_6, e_67_7, e_67_8, e_67_9, e_67_10, e_67_11, e_67_12, e_67_13, e_67_14, e_67_18, e_67_20, e_67_23, e_67_24, e_67_25, e_67_26, e_67_29, e_67_30, e_67_31, e_67_32, e_67_34, e_67_36, e_67_37, e_67_38, e_67_41, e_67_42, e_67_43, e_67_45, e_67_46, e_67_49, e_67_50, e_67_51, e_67_53, e_67_54, e_67_57, e_67_60, e_67_61, Option.bind_some, Option.bind_none, m_kt, m_kn, Option.toList_some, Option.toList_none, List.nil_append, List.cons_append, List.append_nil, ltn, ite_not, ↓reduceIte, true_or, or_true, nP1, oI_s, oI_n, bI_f, bI_t, i1_0, i0_0, Bool.false_eq_true, not_true_eq_false, not_false_eq_true, h1, H.isc, allBeside_ev O d H, ex, and_shl0 (show pN W - 1 < 32 by omega), c, Bool.true_eq_false, o01]
  have e := key 30 0 mJ (by omega) (fun j h1 h2 => by omega)
  simp only [nI_0] at e
  have e0 : (1 : Int32) &&& fr = xS (wN W) (gN W) fr 0 := and_comm32 _ _
  simp only [e_67_0, e_67_1, e_67_2, e_67_5, e_67_6, e_67_7, e_67_8, e_67_9, e_67_10, e_67_11, e_67_12, e_67_13, e_67_14, e_67_18, e_67_20, e_67_23, e_67_24, e_67_25, e_67_26, e_67_29, e_67_30, e_67_31, e_67_32, e_67_34, e_67_36, e_67_37, e_67_38, e_67_41, e_67_42, e_67_43, e_67_45, e_67_46, e_67_49, e_67_50, e_67_51, e_67_53, e_67_54, e_67_57, e_67_60, e_67_61, Option.bind_some, Option.bind_none, m_kt, m_kn, Option.toList_some, Option.toList_none, List.nil_append, List.cons_append, List.append_nil, ltn, ite_not, ↓reduceIte, true_or, or_true, nP1, oI_s, oI_n, bI_f, bI_t, i1_0, i0_0, Bool.false_eq_true, not_true_eq_false, not_false_eq_true, gC2 H, hl, e0]
  exact e
end WayC
section WayM
variable {h : mH} {W : WD}
theorem misWay_ev (O : mO) (d : Nat) (H : MW h W) (R : rng W) {fr : Int32} (hs : sub (wN W * gN W) fr) : ev O (d + 3) 242 0 [.ref 66, .int fr, mJ, mJ] [] h = some (.inl (some (.int (bI (wyB (wN W) (gN W) fr)))), h) := by
  have hN := pN_le R
  have hP := pN_pos R
  have hp1 : nI (pN W) - 1 = nI (pN W - 1) := by rw [n_1, pk_sub hP]
  have fin : ∀ n was, ev O (d + 3) 242 24 [.ref 66, .int fr, .int (xS (wN W) (gN W) fr n), .int was] [] h = some (.inl (some (.int (bI (bt (xS (wN W) (gN W) fr n) (pN W - 1))))), h) := fun n was => by
    cases c : bt (xS (wN W) (gN W) fr n) (pN W - 1) <;> simp only [e_242_0, e_242_1, e_242_2, e_242_3, e_242_4, e_242_5, e_242_7, e_242_8, e_242_11, e_242_12, e_242_13, e_242_14, e_242_15, e_242_18, e_242_19, e_242_20, e_242_21, e_242_24, e_242_25, e_242_26, e_242_29, e_242_30, e_242_31, e_242_34, Option.bind_some, Option.bind_none, m_kt, m_kn, Option.toList_some, Option.toList_none, List.nil_append, List.cons_append, List.append_nil, ltn, ite_not, ↓reduceIte, true_or, or_true, nP1, oI_s, oI_n, bI_f, bI_t, i1_0, i0_0, Bool.false_eq_true, not_true_eq_false, not_false_eq_true, H.1, panes_ev O (d + 2) H R, hp1, has_ev O (d + 2) h _ (show pN W - 1 < 32 by omega), c, z01, o01]
  have key : ∀ k n, n + k = 30 → ev O (d + 3) 242 6 [.ref 66, .int fr, .int (xS (wN W) (gN W) fr (n + 1)), .int (xS (wN W) (gN W) fr n)] [] h = some (.inl (some (.int (bI (wyB (wN W) (gN W) fr)))), h) := by
    intro k
    induction k with
    | zero =>
      intro n hn
      have : n = 30 := by omega
      subst this
      have e := x_end hN hs
      rw [e_242_6]
      simp only [e_242_0, e_242_1, e_242_2, e_242_3, e_242_4, e_242_5, e_242_7, e_242_8, e_242_11, e_242_12, e_242_13, e_242_14, e_242_15, e_242_18, e_242_19, e_242_20, e_242_21, e_242_25, e_242_26, e_242_29, e_242_30, e_242_31, e_242_34, Option.bind_some, Option.bind_none, m_kt, m_kn, Option.toList_some, Option.toList_none, List.nil_append, List.cons_append, List.append_nil, ltn, ite_not, ↓reduceIte, true_or, or_true, nP1, oI_s, oI_n, bI_f, bI_t, i1_0, i0_0, Bool.false_eq_true, not_true_eq_false, not_false_eq_true, e, fin]
      rfl
    | succ k ih =>
      intro n hn
      rw [e_242_6]
      by_cases c : xS (wN W) (gN W) fr (n + 1) = xS (wN W) (gN W) fr n
      · have a := x_st c (30 - n)
        rw [show n + (30 - n) = 30 by omega] at a
        simp only [e_242_0, e_242_1, e_242_2, e_242_3, e_242_4, e_242_5, e_242_7, e_242_8, e_242_11, e_242_12, e_242_13, e_242_14, e_242_15, e_242_18, e_242_19, e_242_20, e_242_21, e_242_25, e_242_26, e_242_29, e_242_30, e_242_31, e_242_34, Option.bind_some, Option.bind_none, m_kt, m_kn, Option.toList_some, Option.toList_none, List.nil_append, List.cons_append, List.append_nil, ltn, ite_not, ↓reduceIte, true_or, or_true, nP1, oI_s, oI_n, bI_f, bI_t, i1_0, i0_0, Bool.false_eq_true, not_true_eq_false, not_false_eq_true, c, fin]
        unfold wyB
        rw [a]; rfl
      · have ea := around_ev O d H R (x_sub hs (n + 1))
        have ex : arS (wN W) (gN W) (xS (wN W) (gN W) fr (n + 1)) &&& fr = xS (wN W) (gN W) fr (n + 2) := rfl
        simp only [e_242_0, e_242_1, e_242_2, e_242_3, e_242_4, e_242_5, e_242_7, e_242_8, e_242_11, e_242_12, e_242_13, e_242_14, e_242_15, e_242_18, e_242_19, e_242_20, e_242_21, e_242_25, e_242_26, e_242_29, e_242_30, e_242_31, e_242_34, Option.bind_some, Option.bind_none, m_kt, m_kn, Option.toList_some, Option.toList_none, List.nil_append, List.cons_append, List.append_nil, ltn, ite_not, ↓reduceIte, true_or, or_true, nP1, oI_s, oI_n, bI_f, bI_t, i1_0, i0_0, Bool.false_eq_true, not_true_eq_false, not_false_eq_true, c, H.1, ea, ex]
        exact ih (n + 1) (by omega)
  have e0 : fr &&& 1 = xS (wN W) (gN W) fr 0 := rfl
  simp only [e_242_0, e_242_1, e_242_2, e_242_3, e_242_4, e_242_5, e_242_7, e_242_8, e_242_11, e_242_12, e_242_13, e_242_14, e_242_15, e_242_18, e_242_19, e_242_20, e_242_21, e_242_25, e_242_26, e_242_29, e_242_30, e_242_31, e_242_34, Option.bind_some, Option.bind_none, m_kt, m_kn, Option.toList_some, Option.toList_none, List.nil_append, List.cons_append, List.append_nil, ltn, ite_not, ↓reduceIte, true_or, or_true, nP1, oI_s, oI_n, bI_f, bI_t, i1_0, i0_0, Bool.false_eq_true, not_true_eq_false, not_false_eq_true, e0]
  rw [e_242_6]
  by_cases c : xS (wN W) (gN W) fr 0 = 0
  · have e : wyB (wN W) (gN W) fr = bt (xS (wN W) (gN W) fr 0) (pN W - 1) := by
      have st : xS (wN W) (gN W) fr 1 = xS (wN W) (gN W) fr 0 := by
        rw [show xS (wN W) (gN W) fr 1 = arS (wN W) (gN W) (xS (wN W) (gN W) fr 0) &&& fr from rfl, c]
        have az : arS (wN W) (gN W) 0 = 0 := by
          apply b_ext
          intro i hi
          rw [bt_ar (by have := R.1.1.2; omega) (by have := R.1.2.1.2; omega) R.1.1.2.1 hN (sub_0 _) hi, b_0]
          have : nb (wN W) (gN W) 0 i = false := by
            cases e : nb (wN W) (gN W) 0 i
            · rfl
            · rw [nb_iff] at e
              obtain ⟨_, _, _, _, b⟩ := e
              rw [b_0] at b; cases b
          rw [this]; simp
        rw [az]
        apply b_ext; intro i hi; rw [b_and, b_0, Bool.false_and]
      have a := x_st st 30
      unfold wyB
      rw [show 0 + 30 = 30 from rfl] at a
      rw [a]; rfl
    have f := fin 0 0
    rw [e]
    simp only [e_242_0, e_242_1, e_242_2, e_242_3, e_242_4, e_242_5, e_242_7, e_242_8, e_242_11, e_242_12, e_242_13, e_242_14, e_242_15, e_242_18, e_242_19, e_242_20, e_242_21, e_242_25, e_242_26, e_242_29, e_242_30, e_242_31, e_242_34, Option.bind_some, Option.bind_none, m_kt, m_kn, Option.toList_some, Option.toList_none, List.nil_append, List.cons_append, List.append_nil, ltn, ite_not, ↓reduceIte, true_or, or_true, nP1, oI_s, oI_n, bI_f, bI_t, i1_0, i0_0, Bool.false_eq_true, not_true_eq_false, not_false_eq_true, c]
    rw [c] at f
    exact f
  · have ea := around_ev O d H R (x_sub hs 0)
    have ex : arS (wN W) (gN W) (xS (wN W) (gN W) fr 0) &&& fr = xS (wN W) (gN W) fr 1 := rfl
    simp only [e_242_0, e_242_1, e_242_2, e_242_3, e_242_4, e_242_5, e_242_7, e_242_8, e_242_11, e_242_12, e_242_13, e_242_14, e_242_15, e_242_18, e_242_19, e_242_20, e_242_21, e_242_25, e_242_26, e_242_29, e_242_30, e_242_31, e_242_34, Option.bind_some, Option.bind_none, m_kt, m_kn, Option.toList_some, Option.toList_none, List.nil_append, List.cons_append, List.append_nil, ltn, ite_not, ↓reduceIte, true_or, or_true, nP1, oI_s, oI_n, bI_f, bI_t, i1_0, i0_0, Bool.false_eq_true, not_true_eq_false, not_false_eq_true, c, H.1, ea, ex]
    exact key 30 0 (by omega)
end WayM
