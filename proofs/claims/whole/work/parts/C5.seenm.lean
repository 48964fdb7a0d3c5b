/-! Fines, and the reference's seeing -/
theorem sc_hGS {h : mH} {a : Nat} (ha : a = 28 ∨ a = 35) (G S : Nat → Int32) : sc h (hGS h a G S) := by
  rcases ha with rfl | rfl
  · exact (sc_set (h := h) (b := 33) (n := 7) (by decide) G).tr (sc_set (b := 34) (n := 20) (by decide) S)
  · exact (sc_set (h := h) (b := 40) (n := 7) (by decide) G).tr (sc_set (b := 41) (n := 20) (by decide) S)
section FineC
variable {h : mH} {a c : Nat} {W : WD}
theorem fineFor_ev (O : mO) (d : Nat) (H : CA h c W) (R : rng W) (hc : c < 20) (ha : a = 28 ∨ a = 35) (S : SH h) (L : LA h a W) {p : Nat} (hp : p < 30) (hr : Int32) : ∃ G S', ev O (d + 5) 46 0 [.ref a, .ref c, .int (nI p), .int hr, mJ, mJ] [] h = some (.inl (some (.int (fnV W p hr))), hGS h a G S') := by
  obtain ⟨G, S1, hG, el⟩ := lets_ev O d H R hc ha S L hp hr
  obtain ⟨G0, e5⟩ : ∃ f, h.1[a + 5]? = some (aI 7 f) := by rcases ha with rfl | rfl <;> exact S.at (by decide)
  obtain ⟨S0, e6⟩ : ∃ f, h.1[a + 6]? = some (aI 20 f) := by rcases ha with rfl | rfl <;> exact S.at (by decide)
  obtain ⟨n0, us, e0⟩ : ∃ n us, h.1[a]? = some (oL a n us) := by
    rcases L with ⟨-, n, eb, -, us, K, F, E, D, l0, -⟩ | ⟨-, us, l0⟩
    · exact ⟨_, us, l0⟩
    · exact ⟨_, us, l0⟩
  let h1 : mH := (h.1.set (a + 5) (aI 7 G), h.2)
  have k0' : h1.1[a]? = some (oL a n0 us) := (hne (by omega)).trans e0
  have k5 : h1.1[a + 5]? = some (aI 7 G) := hget e5
  have k6 : h1.1[a + 6]? = some (aI 20 S0) := (hne (by omega)).trans e6
  have hh : ∀ S, hGS h a G S = hS h1 a S := fun _ => rfl
  have q0 : ∀ S, (hS h1 a S).1[a]? = some (oL a n0 us) := fun S => (hne (by omega)).trans k0'
  have fin : ∀ i s S, n0 ≤ i → ev O (d + 5) 46 18 [.ref a, .ref c, .int (nI p), .int hr, .int s, .int i] [] (hS h1 a S) = some (.inl (some (.int (s))), hS h1 a S) := fun i s S hi => by
    rw [e_46_18]
    simp only [e_46_0, e_46_1, e_46_2, e_46_3, e_46_4, e_46_7, e_46_10, e_46_11, e_46_12, e_46_13, e_46_15, e_46_16, e_46_20, e_46_21, e_46_24, e_46_27, e_46_28, e_46_31, e_46_33, e_46_34, e_46_35, e_46_38, e_46_39, e_46_41, e_46_44, e_46_47, e_46_49, e_46_50, e_46_53, e_46_55, e_46_56, e_46_57, e_46_59, e_46_62, e_46_65, e_46_67, Option.bind_some, Option.bind_none, m_kt, m_kn, Option.toList_some, Option.toList_none, List.nil_append, List.cons_append, List.append_nil, ltn, ite_not, ↓reduceIte, true_or, or_true, nP1, oI_s, oI_n, bI_f, bI_t, i1_0, i0_0, Bool.false_eq_true, not_true_eq_false, not_false_eq_true, gL0 (q0 S), hi]
  refine ⟨G, ?_⟩
  unfold fnV
  cases cs : sv W p hr
  · refine ⟨S1, ?_⟩
    rw [cs] at el
    simp only [e_46_0, e_46_1, e_46_2, e_46_3, e_46_4, e_46_7, e_46_10, e_46_11, e_46_12, e_46_13, e_46_15, e_46_16, e_46_20, e_46_21, e_46_24, e_46_27, e_46_28, e_46_31, e_46_33, e_46_34, e_46_35, e_46_38, e_46_39, e_46_41, e_46_44, e_46_47, e_46_49, e_46_50, e_46_53, e_46_55, e_46_56, e_46_57, e_46_59, e_46_62, e_46_65, e_46_67, Option.bind_some, Option.bind_none, m_kt, m_kn, Option.toList_some, Option.toList_none, List.nil_append, List.cons_append, List.append_nil, ltn, ite_not, ↓reduceIte, true_or, or_true, nP1, oI_s, oI_n, bI_f, bI_t, i1_0, i0_0, Bool.false_eq_true, not_true_eq_false, not_false_eq_true, L_isc e0, el]
  · rw [cs] at el
    rcases L with ⟨w4, n, eb, X, L⟩ | ⟨w4, us', l0⟩
    · have L1 : LC h1 a W n eb := by
        obtain ⟨us, K, F, E, D, l0, l1, l2, l3, l4, l5⟩ := L
        exact ⟨us, K, F, E, D, (hne (by omega)).trans l0, (hne (by omega)).trans l1, (hne (by omega)).trans l2, (hne (by omega)).trans l3, (hne (by omega)).trans l4, l5⟩
      have nl : nLn W = n := by unfold nLn; rw [if_pos w4, X.2.1, nI_clamp (by have := X.1; omega)]
      have n12 := X.1
      obtain ⟨us1, K, F, E, D, l0, l1, l2, l3, l4, l5, l6⟩ := L1
      have en : n0 = nI n := by
        have := l0
        rw [k0'] at this
        simp only [oL, Option.some.injEq, Sum.inr.injEq, Prod.mk.injEq, List.cons.injEq, Value.int.injEq, true_and] at this
        exact this.1
      have L1 : LC h1 a W n eb := ⟨us1, K, F, E, D, l0, l1, l2, l3, l4, l5, l6⟩
      have e := lp_runV (ν := Nat → Int32) (F := fun i s S => ev O (d + 5) 46 18 [.ref a, .ref c, .int (nI p), .int hr, .int s, .int (nI i)] [] (hS h1 a S)) (f := fnF W p hr) (n := n) (fun i s S hi => by
        have c1 : ¬ n0 ≤ nI i := by rw [en]; exact nI_ge hi (by omega)
        obtain ⟨S', et⟩ := isTrue_ev O (d + 2) X L1 k5 k6 hi S
        rw [tru_w X hG hi] at et
        have q1 : ∀ S, (hS h1 a S).1[a + 1]? = some (aI 12 K) := fun S => (hne (by omega)).trans l1
        have q2 : ∀ S, (hS h1 a S).1[a + 2]? = some (aI 12 F) := fun S => (hne (by omega)).trans l2
        have gk : ∀ S, m_ai (hS h1 a S) (a + 1) (nI i) = some (K i) := fun S => ai_n (q1 S) (by omega) (by decide)
        have gf : ∀ S, m_ai (hS h1 a S) (a + 2) (nI i) = some (F i) := fun S => ai_n (q2 S) (by omega) (by decide)
        unfold fnF
        rw [e_46_18]
        rcases (l5 i hi).2 with ⟨a1, a2⟩ | ⟨a1, a2⟩ | ⟨f, f9, a1, a2, a3⟩
        · have lt : W (428 + 3 * i) < 0 := by rw [a1]; decide
          refine ⟨S, ?_⟩
          simp only [e_46_0, e_46_1, e_46_2, e_46_3, e_46_4, e_46_7, e_46_10, e_46_11, e_46_12, e_46_13, e_46_15, e_46_16, e_46_20, e_46_21, e_46_24, e_46_27, e_46_28, e_46_31, e_46_33, e_46_34, e_46_35, e_46_38, e_46_39, e_46_41, e_46_44, e_46_47, e_46_49, e_46_50, e_46_53, e_46_55, e_46_56, e_46_57, e_46_59, e_46_62, e_46_65, e_46_67, Option.bind_some, Option.bind_none, m_kt, m_kn, Option.toList_some, Option.toList_none, List.nil_append, List.cons_append, List.append_nil, ltn, ite_not, ↓reduceIte, true_or, or_true, nP1, oI_s, oI_n, bI_f, bI_t, i1_0, i0_0, Bool.false_eq_true, not_true_eq_false, not_false_eq_true, gL0 (q0 _), c1, gL1 (q0 _), gk, a2, (show ¬ (0 : Int32) = 2 by decide), (show ¬ (0 : Int32) ≤ W (428 + 3 * i) from Int32.not_le.mpr lt), decide_eq_true lt, not_false_eq_true, decide_true, Bool.not_true, Bool.false_and, Bool.false_eq_true, ↓reduceIte]
        · have lt : W (428 + 3 * i) < 0 := by rw [a1]; decide
          refine ⟨S, ?_⟩
          simp only [e_46_0, e_46_1, e_46_2, e_46_3, e_46_4, e_46_7, e_46_10, e_46_11, e_46_12, e_46_13, e_46_15, e_46_16, e_46_20, e_46_21, e_46_24, e_46_27, e_46_28, e_46_31, e_46_33, e_46_34, e_46_35, e_46_38, e_46_39, e_46_41, e_46_44, e_46_47, e_46_49, e_46_50, e_46_53, e_46_55, e_46_56, e_46_57, e_46_59, e_46_62, e_46_65, e_46_67, Option.bind_some, Option.bind_none, m_kt, m_kn, Option.toList_some, Option.toList_none, List.nil_append, List.cons_append, List.append_nil, ltn, ite_not, ↓reduceIte, true_or, or_true, nP1, oI_s, oI_n, bI_f, bI_t, i1_0, i0_0, Bool.false_eq_true, not_true_eq_false, not_false_eq_true, gL0 (q0 _), c1, gL1 (q0 _), gk, a2, (show ¬ (1 : Int32) = 2 by decide), (show ¬ (0 : Int32) ≤ W (428 + 3 * i) from Int32.not_le.mpr lt), decide_eq_true lt, not_false_eq_true, decide_true, Bool.not_true, Bool.false_and, Bool.false_eq_true, ↓reduceIte]
        · have nlt : ¬ W (428 + 3 * i) < 0 := by rw [a1]; exact nI_pos (by omega)
          refine ⟨S', ?_⟩
          cases q : trw W (fct W p hr) i
          · rw [q] at et
            simp only [e_46_0, e_46_1, e_46_2, e_46_3, e_46_4, e_46_7, e_46_10, e_46_11, e_46_12, e_46_13, e_46_15, e_46_16, e_46_20, e_46_21, e_46_24, e_46_27, e_46_28, e_46_31, e_46_33, e_46_34, e_46_35, e_46_38, e_46_39, e_46_41, e_46_44, e_46_47, e_46_49, e_46_50, e_46_53, e_46_55, e_46_56, e_46_57, e_46_59, e_46_62, e_46_65, e_46_67, Option.bind_some, Option.bind_none, m_kt, m_kn, Option.toList_some, Option.toList_none, List.nil_append, List.cons_append, List.append_nil, ltn, ite_not, ↓reduceIte, true_or, or_true, nP1, oI_s, oI_n, bI_f, bI_t, i1_0, i0_0, Bool.false_eq_true, not_true_eq_false, not_false_eq_true, gL0 (q0 _), c1, gL1 (q0 _), gk, a2, L_isc (q0 S), et, Bool.and_false]
          · rw [q] at et
            simp only [e_46_0, e_46_1, e_46_2, e_46_3, e_46_4, e_46_7, e_46_10, e_46_11, e_46_12, e_46_13, e_46_15, e_46_16, e_46_20, e_46_21, e_46_24, e_46_27, e_46_28, e_46_31, e_46_33, e_46_34, e_46_35, e_46_38, e_46_39, e_46_41, e_46_44, e_46_47, e_46_49, e_46_50, e_46_53, e_46_55, e_46_56, e_46_57, e_46_59, e_46_62, e_46_65, e_46_67, Option.bind_some, Option.bind_none, m_kt, m_kn, Option.toList_some, Option.toList_none, List.nil_append, List.cons_append, List.append_nil, ltn, ite_not, ↓reduceIte, true_or, or_true, nP1, oI_s, oI_n, bI_f, bI_t, i1_0, i0_0, Bool.false_eq_true, not_true_eq_false, not_false_eq_true, gL0 (q0 _), c1, gL1 (q0 _), gk, a2, L_isc (q0 S), et, gL2 (q0 _), gf, a3, a1, (show (0 : Int32) ≤ nI f from by rw [← a1]; exact Int32.not_lt.mp nlt), not_true_eq_false, decide_false, Bool.not_false, Bool.and_self, Bool.and_true, ↓reduceIte]) 0 S1
      obtain ⟨S', e⟩ := e
      simp only [nI_0] at e
      rw [nl]
      refine ⟨S', ?_⟩
      simp only [e_46_0, e_46_1, e_46_2, e_46_3, e_46_4, e_46_7, e_46_10, e_46_11, e_46_12, e_46_13, e_46_15, e_46_16, e_46_20, e_46_21, e_46_24, e_46_27, e_46_28, e_46_31, e_46_33, e_46_34, e_46_35, e_46_38, e_46_39, e_46_41, e_46_44, e_46_47, e_46_49, e_46_50, e_46_53, e_46_55, e_46_56, e_46_57, e_46_59, e_46_62, e_46_65, e_46_67, Option.bind_some, Option.bind_none, m_kt, m_kn, Option.toList_some, Option.toList_none, List.nil_append, List.cons_append, List.append_nil, ltn, ite_not, ↓reduceIte, true_or, or_true, nP1, oI_s, oI_n, bI_f, bI_t, i1_0, i0_0, Bool.false_eq_true, not_true_eq_false, not_false_eq_true, L_isc e0, el]
      exact e.trans (fin _ _ _ (by rw [en]; exact Int32.le_refl _))
    · have en : n0 = -1 := by
        rw [e0] at l0
        simp only [oL, Option.some.injEq, Sum.inr.injEq, Prod.mk.injEq, List.cons.injEq, Value.int.injEq, true_and] at l0
        exact l0.1
      have nl : nLn W = 0 := by unfold nLn; rw [if_neg (by rw [w4]; decide)]
      rw [nl]
      refine ⟨S1, ?_⟩
      simp only [e_46_0, e_46_1, e_46_2, e_46_3, e_46_4, e_46_7, e_46_10, e_46_11, e_46_12, e_46_13, e_46_15, e_46_16, e_46_20, e_46_21, e_46_24, e_46_27, e_46_28, e_46_31, e_46_33, e_46_34, e_46_35, e_46_38, e_46_39, e_46_41, e_46_44, e_46_47, e_46_49, e_46_50, e_46_53, e_46_55, e_46_56, e_46_57, e_46_59, e_46_62, e_46_65, e_46_67, Option.bind_some, Option.bind_none, m_kt, m_kn, Option.toList_some, Option.toList_none, List.nil_append, List.cons_append, List.append_nil, ltn, ite_not, ↓reduceIte, true_or, or_true, nP1, oI_s, oI_n, bI_f, bI_t, i1_0, i0_0, Bool.false_eq_true, not_true_eq_false, not_false_eq_true, L_isc e0, el]
      exact fin 0 0 S1 (by rw [en]; decide)
end FineC
section SeenG
variable {h : mH} {g : gT} {W : WD}
theorem Gseen_ev (O : mO) (d : Nat) (C : CG h g W) (ha : g.2.2.1 = 28 ∨ g.2.2.1 = 35) (L : LA h g.2.2.1 W) (x y : Int32) : GA (ev O (d + 5) 116 0 [.ref 0, .int x, .int y] [] h) h (if codePH W x y = 1 then some 1 else none) (.int (bI (sv W x.toNatClampNeg y))) := by
  obtain ⟨G, H, ga, R, S⟩ := C
  have hN := pN_le R
  unfold codePH nPa
  cases a1 : inB x 0 (nI (pN W) - 1)
  · simp only [Bool.false_and, Bool.false_eq_true, ↓reduceIte]
    show _ = _
    simp only [e_116_0, e_116_1, e_116_2, e_116_5, e_116_6, e_116_9, e_116_10, e_116_13, e_116_14, e_116_17, e_116_18, e_116_19, e_116_22, Option.bind_some, Option.bind_none, m_kt, m_kn, Option.toList_some, Option.toList_none, List.nil_append, List.cons_append, List.append_nil, ltn, ite_not, ↓reduceIte, true_or, or_true, nP1, oI_s, oI_n, bI_f, bI_t, i1_0, i0_0, Bool.false_eq_true, not_true_eq_false, not_false_eq_true, iscG G, checkPane_ev O _ G H R, checkHour_ev, checkWithin_ev, checkOwner_ev, checkSeer_ev O _ G H R, gG0 G, H.isc, Bool.false_eq_true, a1]
  · cases a2 : inB y 0 23
    · simp only [Bool.and_false, Bool.false_eq_true, ↓reduceIte]
      show _ = _
      simp only [e_116_0, e_116_1, e_116_2, e_116_5, e_116_6, e_116_9, e_116_10, e_116_13, e_116_14, e_116_17, e_116_18, e_116_19, e_116_22, Option.bind_some, Option.bind_none, m_kt, m_kn, Option.toList_some, Option.toList_none, List.nil_append, List.cons_append, List.append_nil, ltn, ite_not, ↓reduceIte, true_or, or_true, nP1, oI_s, oI_n, bI_f, bI_t, i1_0, i0_0, Bool.false_eq_true, not_true_eq_false, not_false_eq_true, iscG G, checkPane_ev O _ G H R, checkHour_ev, checkWithin_ev, checkOwner_ev, checkSeer_ev O _ G H R, gG0 G, H.isc, Bool.false_eq_true, a1, a2]
    · have b1 := a1
      obtain ⟨p, hp, rfl⟩ := inB_ix (by omega) a1
      simp only [Bool.and_true, ↓reduceIte, Nat.zero_ne_one]
      rw [nI_clamp (show p < 2 ^ 31 by omega)]
      obtain ⟨G1, S1, -, el⟩ := lets_ev O d H R ga ha S L (show p < 30 by omega) y
      have li : m_isc h g.2.2.1 2 = true := by
        rcases L with ⟨-, n, eb, -, us, K, F, E, D, l0, -⟩ | ⟨-, us, l0⟩
        · exact L_isc l0
        · exact L_isc l0
      refine ⟨_, ?_, sc_hGS ha G1 S1⟩
      simp only [e_116_0, e_116_1, e_116_2, e_116_5, e_116_6, e_116_9, e_116_10, e_116_13, e_116_14, e_116_17, e_116_18, e_116_19, e_116_22, Option.bind_some, Option.bind_none, m_kt, m_kn, Option.toList_some, Option.toList_none, List.nil_append, List.cons_append, List.append_nil, ltn, ite_not, ↓reduceIte, true_or, or_true, nP1, oI_s, oI_n, bI_f, bI_t, i1_0, i0_0, Bool.false_eq_true, not_true_eq_false, not_false_eq_true, iscG G, checkPane_ev O _ G H R, checkHour_ev, checkWithin_ev, checkOwner_ev, checkSeer_ev O _ G H R, gG0 G, H.isc, Bool.false_eq_true, b1, a2, gG3 G, li, el, bI_01]
theorem Gfined_ev (O : mO) (d : Nat) (C : CG h g W) (ha : g.2.2.1 = 28 ∨ g.2.2.1 = 35) (L : LA h g.2.2.1 W) (x y : Int32) : GA (ev O (d + 6) 117 0 [.ref 0, .int x, .int y] [] h) h (if codePH W x y = 1 then some 1 else none) (.int (fnV W x.toNatClampNeg y)) := by
  obtain ⟨G, H, ga, R, S⟩ := C
  have hN := pN_le R
  unfold codePH nPa
  cases a1 : inB x 0 (nI (pN W) - 1)
  · simp only [Bool.false_and, Bool.false_eq_true, ↓reduceIte]
    show _ = _
    simp only [e_117_0, e_117_1, e_117_2, e_117_5, e_117_6, e_117_9, e_117_10, e_117_13, e_117_14, e_117_17, e_117_18, e_117_19, e_117_22, Option.bind_some, Option.bind_none, m_kt, m_kn, Option.toList_some, Option.toList_none, List.nil_append, List.cons_append, List.append_nil, ltn, ite_not, ↓reduceIte, true_or, or_true, nP1, oI_s, oI_n, bI_f, bI_t, i1_0, i0_0, Bool.false_eq_true, not_true_eq_false, not_false_eq_true, iscG G, checkPane_ev O _ G H R, checkHour_ev, checkWithin_ev, checkOwner_ev, checkSeer_ev O _ G H R, gG0 G, H.isc, Bool.false_eq_true, a1]
  · cases a2 : inB y 0 23
    · simp only [Bool.and_false, Bool.false_eq_true, ↓reduceIte]
      show _ = _
      simp only [e_117_0, e_117_1, e_117_2, e_117_5, e_117_6, e_117_9, e_117_10, e_117_13, e_117_14, e_117_17, e_117_18, e_117_19, e_117_22, Option.bind_some, Option.bind_none, m_kt, m_kn, Option.toList_some, Option.toList_none, List.nil_append, List.cons_append, List.append_nil, ltn, ite_not, ↓reduceIte, true_or, or_true, nP1, oI_s, oI_n, bI_f, bI_t, i1_0, i0_0, Bool.false_eq_true, not_true_eq_false, not_false_eq_true, iscG G, checkPane_ev O _ G H R, checkHour_ev, checkWithin_ev, checkOwner_ev, checkSeer_ev O _ G H R, gG0 G, H.isc, Bool.false_eq_true, a1, a2]
    · have b1 := a1
      obtain ⟨p, hp, rfl⟩ := inB_ix (by omega) a1
      simp only [Bool.and_true, ↓reduceIte, Nat.zero_ne_one]
      rw [nI_clamp (show p < 2 ^ 31 by omega)]
      obtain ⟨G1, S1, el⟩ := fineFor_ev O d H R ga ha S L (show p < 30 by omega) y
      have li : m_isc h g.2.2.1 2 = true := by
        rcases L with ⟨-, n, eb, -, us, K, F, E, D, l0, -⟩ | ⟨-, us, l0⟩
        · exact L_isc l0
        · exact L_isc l0
      refine ⟨_, ?_, sc_hGS ha G1 S1⟩
      simp only [e_117_0, e_117_1, e_117_2, e_117_5, e_117_6, e_117_9, e_117_10, e_117_13, e_117_14, e_117_17, e_117_18, e_117_19, e_117_22, Option.bind_some, Option.bind_none, m_kt, m_kn, Option.toList_some, Option.toList_none, List.nil_append, List.cons_append, List.append_nil, ltn, ite_not, ↓reduceIte, true_or, or_true, nP1, oI_s, oI_n, bI_f, bI_t, i1_0, i0_0, Bool.false_eq_true, not_true_eq_false, not_false_eq_true, iscG G, checkPane_ev O _ G H R, checkHour_ev, checkWithin_ev, checkOwner_ev, checkSeer_ev O _ G H R, gG0 G, H.isc, Bool.false_eq_true, b1, a2, gG3 G, li, el]
end SeenG
def hVl (h : mH) (v : Nat → Int32) : mH := (h.1.set 73 (aI 400 v), h.2)
theorem sc_hVl {h : mH} (v : Nat → Int32) : sc h (hVl h v) := sc_set (by decide) v
section SeenM
variable {h : mH} {m : Nat → Int32} {W : WD}
theorem factOf_ev (O : mO) (d : Nat) (H : MW h W) (R : rng W) {p k : Nat} (hp : p < 30) (hk : k ≤ 7) (x hr : Int32) : ev O (d + 4) 210 0 [.ref 66, .int (nI k), .int x, .int (nI p), .int hr] [] h = some (.inl (some (.int (if k < 7 then fct W p hr k else x))), h) := by
  have hk' : k = 0 ∨ k = 1 ∨ k = 2 ∨ k = 3 ∨ k = 4 ∨ k = 5 ∨ k = 6 ∨ k = 7 := by omega
  rcases hk' with rfl | rfl | rfl | rfl | rfl | rfl | rfl | rfl
  all_goals
    simp only [e_210_0, e_210_1, e_210_44, e_210_45, e_210_46, e_210_47, e_210_50, e_210_51, e_210_52, e_210_53, e_210_54, e_210_57, e_210_58, e_210_59, e_210_60, e_210_61, e_210_64, e_210_65, e_210_67, e_210_68, e_210_69, e_210_70, e_210_72, e_210_75, e_210_76, e_210_77, e_210_78, e_210_79, e_210_82, e_210_83, e_210_84, e_210_85, e_210_87, e_210_90, e_210_91, e_210_92, Option.bind_some, Option.bind_none, m_kt, m_kn, Option.toList_some, Option.toList_none, List.nil_append, List.cons_append, List.append_nil, ltn, ite_not, ↓reduceIte, true_or, or_true, nP1, oI_s, oI_n, bI_f, bI_t, i1_0, i0_0, Bool.false_eq_true, not_true_eq_false, not_false_eq_true, tl_0, tn_0, tl_1, tn_1, tl_2, tn_2, tl_3, tn_3, tl_4, tn_4, tl_5, tn_5, tl_6, tn_6, tl_7, tn_7, tl_8, tn_8, tl_9, tn_9, tl_10, tn_10, (show List.getD [44, 51, 58, 65, 68, 76, 83] 0 91 = 44 from rfl), (show List.getD [44, 51, 58, 65, 68, 76, 83] 1 91 = 51 from rfl), (show List.getD [44, 51, 58, 65, 68, 76, 83] 2 91 = 58 from rfl), (show List.getD [44, 51, 58, 65, 68, 76, 83] 3 91 = 65 from rfl), (show List.getD [44, 51, 58, 65, 68, 76, 83] 4 91 = 68 from rfl), (show List.getD [44, 51, 58, 65, 68, 76, 83] 5 91 = 76 from rfl), (show List.getD [44, 51, 58, 65, 68, 76, 83] 6 91 = 83 from rfl), H.1, of0_ev O (d + 3) H hp, of2_ev O (d + 3) H hp, of3_ev O (d + 3) H hp, of4_ev O (d + 3) H hp, lightAt_ev O d H hp, loadAt_ev O (d + 1) H R, (show List.getD [44, 51, 58, 65, 68, 76, 83] 7 91 = 91 from rfl)]
    rfl
end SeenM
