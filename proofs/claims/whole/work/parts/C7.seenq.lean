/-! The reference's seen and fined -/
section SeenQ
variable {h : mH} {m : Nat → Int32} {W : WD}
theorem lines_ev (O : mO) (d : Nat) (H : MS h m W) (T : TW W) : ev O (d) 212 0 [.ref 66] [] h = some (.inl (some (.int (nI (nLn W)))), h) := by
  have w427 : m_ai h 67 427 = some (W 427) := H.w.w (i := 427) (by decide)
  unfold nLn
  rcases T with ⟨w4, n, eb, X⟩ | w4
  · have n12 := X.1
    rw [if_pos w4, X.2.1, nI_clamp (by omega)]
    simp only [e_212_0, e_212_1, e_212_4, e_212_5, e_212_6, e_212_7, e_212_10, e_212_11, e_212_14, e_212_17, e_212_18, e_212_21, e_212_22, Option.bind_some, Option.bind_none, m_kt, m_kn, Option.toList_some, Option.toList_none, List.nil_append, List.cons_append, List.append_nil, ltn, ite_not, ↓reduceIte, true_or, or_true, nP1, oI_s, oI_n, bI_f, bI_t, i1_0, i0_0, Bool.false_eq_true, not_true_eq_false, not_false_eq_true, gM1 H.1, H.w.w4, w4, w427, X.2.1]
  · rw [if_neg (by rw [w4]; decide)]
    simp only [e_212_0, e_212_1, e_212_4, e_212_5, e_212_6, e_212_7, e_212_10, e_212_11, e_212_14, e_212_17, e_212_18, e_212_21, e_212_22, Option.bind_some, Option.bind_none, m_kt, m_kn, Option.toList_some, Option.toList_none, List.nil_append, List.cons_append, List.append_nil, ltn, ite_not, ↓reduceIte, true_or, or_true, nP1, oI_s, oI_n, bI_f, bI_t, i1_0, i0_0, Bool.false_eq_true, not_true_eq_false, not_false_eq_true, gM1 H.1, H.w.w4, w4, (show ((0 : Int32) = 1) = False by decide), nI_0]
theorem TW.ln {W : WD} (T : TW W) {i : Nat} (hi : i < nLn W) : nLn W ≤ 12 ∧ ∃ eb, TXT W (nLn W) eb := by
  rcases T with ⟨w4, n, eb, X⟩ | w4
  · have n12 := X.1
    have : nLn W = n := by unfold nLn; rw [if_pos w4, X.2.1, nI_clamp (by omega)]
    rw [this]
    exact ⟨n12, eb, X⟩
  · have : nLn W = 0 := by unfold nLn; rw [if_neg (by rw [w4]; decide)]
    omega
theorem hVl_hVl (h : mH) (v w : Nat → Int32) : hVl (hVl h v) w = hVl h w := by unfold hVl; rw [List.set_set]
theorem isSeen_ev (O : mO) (d : Nat) (H : MS h m W) (R : rng W) (S : SH h) (T : TW W) {p : Nat} (hp : p < 30) (hr : Int32) : ∃ v, ev O (d + 6) 213 0 [.ref 66, .int (nI p), .int hr, mJ] [] h = some (.inl (some (.int (bI (sv W p hr)))), hVl h v) := by
  obtain ⟨v0, e73⟩ := S.at (b := 73) (n := 400) (by decide)
  have h0 : hVl h v0 = h := by unfold hVl; rw [hset e73]
  have H1 : ∀ v, MS (hVl h v) m W := fun v => sc_MS (sc_hVl v) H
  have S1 : ∀ v, SH (hVl h v) := fun v => (sc_hVl v).2 S
  have e := fd_runE (ν := Nat → Int32) (c := svI W p hr) (n := nLn W) (F := fun i v => ev O (d + 6) 213 2 [.ref 66, .int (nI p), .int hr, .int (nI i)] [] (hVl h v)) (E := fun i r => ∃ v, r = some (.inl (some (.int (bI (decide (W (428 + 3 * i) = -2))))), hVl h v)) (fun i v hi => by
    obtain ⟨n12, eb, X⟩ := T.ln hi
    have c1 : ¬ nI (nLn W) ≤ nI i := nI_ge hi (by omega)
    obtain ⟨v', et⟩ := holdsLine_ev O d (H1 v) R (S1 v) X hi hp hr
    rw [hVl_hVl] at et
    have gw : ∀ v, m_ai (hVl h v) 67 (nI (428 + 3 * i)) = some (W (428 + 3 * i)) := fun v => (H1 v).w.w (by omega)
    unfold svI
    rw [e_213_2]
    by_cases lt : W (428 + 3 * i) < 0
    · have nle : ¬ (0 : Int32) ≤ W (428 + 3 * i) := Int32.not_le.mpr lt
      rw [decide_eq_true lt, Bool.true_and]
      refine ⟨fun q => ⟨v', ?_⟩, fun q => ⟨v', ?_⟩⟩
      · rw [q] at et
        by_cases z : W (428 + 3 * i) = -2
        · simp only [e_213_0, e_213_1, e_213_3, e_213_4, e_213_7, e_213_10, e_213_11, e_213_14, e_213_17, e_213_18, e_213_19, e_213_20, e_213_21, e_213_22, e_213_25, e_213_26, e_213_27, e_213_28, e_213_29, e_213_32, e_213_35, e_213_36, e_213_39, e_213_42, e_213_43, e_213_44, e_213_45, e_213_46, e_213_47, e_213_49, e_213_52, e_213_53, e_213_56, e_213_57, e_213_58, e_213_61, e_213_64, e_213_65, e_213_66, e_213_67, e_213_70, e_213_72, e_213_75, e_213_76, e_213_79, e_213_80, Option.bind_some, Option.bind_none, m_kt, m_kn, Option.toList_some, Option.toList_none, List.nil_append, List.cons_append, List.append_nil, ltn, ite_not, ↓reduceIte, true_or, or_true, nP1, oI_s, oI_n, bI_f, bI_t, i1_0, i0_0, Bool.false_eq_true, not_true_eq_false, not_false_eq_true, (H1 _).isc, lines_ev O (d + 5) (H1 _) T, c1, gM1 (H1 _).1, nx3, nL428, gw, nle, et, eq_true z, decide_true, o01]
        · simp only [e_213_0, e_213_1, e_213_3, e_213_4, e_213_7, e_213_10, e_213_11, e_213_14, e_213_17, e_213_18, e_213_19, e_213_20, e_213_21, e_213_22, e_213_25, e_213_26, e_213_27, e_213_28, e_213_29, e_213_32, e_213_35, e_213_36, e_213_39, e_213_42, e_213_43, e_213_44, e_213_45, e_213_46, e_213_47, e_213_49, e_213_52, e_213_53, e_213_56, e_213_57, e_213_58, e_213_61, e_213_64, e_213_65, e_213_66, e_213_67, e_213_70, e_213_72, e_213_75, e_213_76, e_213_79, e_213_80, Option.bind_some, Option.bind_none, m_kt, m_kn, Option.toList_some, Option.toList_none, List.nil_append, List.cons_append, List.append_nil, ltn, ite_not, ↓reduceIte, true_or, or_true, nP1, oI_s, oI_n, bI_f, bI_t, i1_0, i0_0, Bool.false_eq_true, not_true_eq_false, not_false_eq_true, (H1 _).isc, lines_ev O (d + 5) (H1 _) T, c1, gM1 (H1 _).1, nx3, nL428, gw, nle, et, z, decide_false, z01]
      · rw [q] at et
        simp only [e_213_0, e_213_1, e_213_3, e_213_4, e_213_7, e_213_10, e_213_11, e_213_14, e_213_17, e_213_18, e_213_19, e_213_20, e_213_21, e_213_22, e_213_25, e_213_26, e_213_27, e_213_28, e_213_29, e_213_32, e_213_35, e_213_36, e_213_39, e_213_42, e_213_43, e_213_44, e_213_45, e_213_46, e_213_47, e_213_49, e_213_52, e_213_53, e_213_56, e_213_57, e_213_58, e_213_61, e_213_64, e_213_65, e_213_66, e_213_67, e_213_70, e_213_72, e_213_75, e_213_76, e_213_79, e_213_80, Option.bind_some, Option.bind_none, m_kt, m_kn, Option.toList_some, Option.toList_none, List.nil_append, List.cons_append, List.append_nil, ltn, ite_not, ↓reduceIte, true_or, or_true, nP1, oI_s, oI_n, bI_f, bI_t, i1_0, i0_0, Bool.false_eq_true, not_true_eq_false, not_false_eq_true, (H1 _).isc, lines_ev O (d + 5) (H1 _) T, c1, gM1 (H1 _).1, nx3, nL428, gw, nle, et]
    · have nle : (0 : Int32) ≤ W (428 + 3 * i) := Int32.not_lt.mp lt
      rw [decide_eq_false lt]
      refine ⟨fun q => (by cases q), fun _ => ⟨v, ?_⟩⟩
      simp only [e_213_0, e_213_1, e_213_3, e_213_4, e_213_7, e_213_10, e_213_11, e_213_14, e_213_17, e_213_18, e_213_19, e_213_20, e_213_21, e_213_22, e_213_25, e_213_26, e_213_27, e_213_28, e_213_29, e_213_32, e_213_35, e_213_36, e_213_39, e_213_42, e_213_43, e_213_44, e_213_45, e_213_46, e_213_47, e_213_49, e_213_52, e_213_53, e_213_56, e_213_57, e_213_58, e_213_61, e_213_64, e_213_65, e_213_66, e_213_67, e_213_70, e_213_72, e_213_75, e_213_76, e_213_79, e_213_80, Option.bind_some, Option.bind_none, m_kt, m_kn, Option.toList_some, Option.toList_none, List.nil_append, List.cons_append, List.append_nil, ltn, ite_not, ↓reduceIte, true_or, or_true, nP1, oI_s, oI_n, bI_f, bI_t, i1_0, i0_0, Bool.false_eq_true, not_true_eq_false, not_false_eq_true, (H1 _).isc, lines_ev O (d + 5) (H1 _) T, c1, gM1 (H1 _).1, nx3, nL428, gw, nle]) v0
  simp only [nI_0] at e
  rw [h0] at e
  unfold sv
  rcases e with ⟨i, ei, v, e⟩ | ⟨en, v, e⟩
  · refine ⟨v, ?_⟩
    rw [ei]
    simp only [e_213_0, e_213_1, e_213_3, e_213_4, e_213_7, e_213_10, e_213_11, e_213_14, e_213_17, e_213_18, e_213_19, e_213_20, e_213_21, e_213_22, e_213_25, e_213_26, e_213_27, e_213_28, e_213_29, e_213_32, e_213_35, e_213_36, e_213_39, e_213_42, e_213_43, e_213_44, e_213_45, e_213_46, e_213_47, e_213_49, e_213_52, e_213_53, e_213_56, e_213_57, e_213_58, e_213_61, e_213_64, e_213_65, e_213_66, e_213_67, e_213_70, e_213_72, e_213_75, e_213_76, e_213_79, e_213_80, Option.bind_some, Option.bind_none, m_kt, m_kn, Option.toList_some, Option.toList_none, List.nil_append, List.cons_append, List.append_nil, ltn, ite_not, ↓reduceIte, true_or, or_true, nP1, oI_s, oI_n, bI_f, bI_t, i1_0, i0_0, Bool.false_eq_true, not_true_eq_false, not_false_eq_true]
    exact e
  · refine ⟨v, ?_⟩
    rw [en]
    simp only [e_213_0, e_213_1, e_213_3, e_213_4, e_213_7, e_213_10, e_213_11, e_213_14, e_213_17, e_213_18, e_213_19, e_213_20, e_213_21, e_213_22, e_213_25, e_213_26, e_213_27, e_213_28, e_213_29, e_213_32, e_213_35, e_213_36, e_213_39, e_213_42, e_213_43, e_213_44, e_213_45, e_213_46, e_213_47, e_213_49, e_213_52, e_213_53, e_213_56, e_213_57, e_213_58, e_213_61, e_213_64, e_213_65, e_213_66, e_213_67, e_213_70, e_213_72, e_213_75, e_213_76, e_213_79, e_213_80, Option.bind_some, Option.bind_none, m_kt, m_kn, Option.toList_some, Option.toList_none, List.nil_append, List.cons_append, List.append_nil, ltn, ite_not, ↓reduceIte, true_or, or_true, nP1, oI_s, oI_n, bI_f, bI_t, i1_0, i0_0, Bool.false_eq_true, not_true_eq_false, not_false_eq_true]
    refine e.trans ?_
    rw [e_213_2]
    by_cases q : lgS W p hr ≤ 20 <;> simp only [e_213_0, e_213_1, e_213_3, e_213_4, e_213_7, e_213_10, e_213_11, e_213_14, e_213_17, e_213_18, e_213_19, e_213_20, e_213_21, e_213_22, e_213_25, e_213_26, e_213_27, e_213_28, e_213_29, e_213_32, e_213_35, e_213_36, e_213_39, e_213_42, e_213_43, e_213_44, e_213_45, e_213_46, e_213_47, e_213_49, e_213_52, e_213_53, e_213_56, e_213_57, e_213_58, e_213_61, e_213_64, e_213_65, e_213_66, e_213_67, e_213_70, e_213_72, e_213_75, e_213_76, e_213_79, e_213_80, Option.bind_some, Option.bind_none, m_kt, m_kn, Option.toList_some, Option.toList_none, List.nil_append, List.cons_append, List.append_nil, ltn, ite_not, ↓reduceIte, true_or, or_true, nP1, oI_s, oI_n, bI_f, bI_t, i1_0, i0_0, Bool.false_eq_true, not_true_eq_false, not_false_eq_true, (H1 _).isc, lines_ev O (d + 5) (H1 _) T, Int32.le_refl, lightAt_ev O (d + 2) (H1 _).w hp, q, Option.elim, decide_true, decide_false, Bool.not_true, Bool.not_false, z01, o01]
theorem Mseen_ev (O : mO) (d : Nat) (H : MS h m W) (R : rng W) (S : SH h) (T : TW W) (x y : Int32) : MA (ev O (d + 7) 214 0 [.ref 66, .int x, .int y] [] h) h m (nI (codePH W x y)) (.int (if codePH W x y = 0 then bI (sv W x.toNatClampNeg y) else 0)) := by
  have hN := pN_le R
  have H0 := H.t 0
  unfold codePH nPa
  cases a1 : inB x 0 (nI (pN W) - 1)
  · refine ⟨_, ?_, sc.rf _⟩
    simp only [e_214_0, e_214_1, e_214_2, e_214_5, e_214_6, e_214_7, e_214_8, e_214_11, e_214_14, e_214_15, e_214_18, e_214_21, e_214_22, e_214_25, e_214_26, e_214_27, e_214_30, e_214_33, e_214_34, e_214_35, e_214_36, e_214_39, e_214_42, e_214_43, e_214_46, e_214_47, Option.bind_some, Option.bind_none, m_kt, m_kn, Option.toList_some, Option.toList_none, List.nil_append, List.cons_append, List.append_nil, ltn, ite_not, ↓reduceIte, true_or, or_true, nP1, oI_s, oI_n, bI_f, bI_t, i1_0, i0_0, Bool.false_eq_true, not_true_eq_false, not_false_eq_true, nI_0, m1m1, Nat.one_ne_zero, two_ne0, pMt H, H0.isc, noPane_ev O _ H0.w R, noHour_ev, noSeer_ev O _ H0.w, in_ev, Bool.not_false, Bool.not_true, bI_f, bI_t, thr0_ev O _ H0, thr1_ev O _ H0, i1_0, i0_0, z01, o01, tH_tH, Bool.false_eq_true, a1, Bool.false_and]
    rfl
  · cases a2 : inB y 0 23
    · refine ⟨_, ?_, sc.rf _⟩
      simp only [e_214_0, e_214_1, e_214_2, e_214_5, e_214_6, e_214_7, e_214_8, e_214_11, e_214_14, e_214_15, e_214_18, e_214_21, e_214_22, e_214_25, e_214_26, e_214_27, e_214_30, e_214_33, e_214_34, e_214_35, e_214_36, e_214_39, e_214_42, e_214_43, e_214_46, e_214_47, Option.bind_some, Option.bind_none, m_kt, m_kn, Option.toList_some, Option.toList_none, List.nil_append, List.cons_append, List.append_nil, ltn, ite_not, ↓reduceIte, true_or, or_true, nP1, oI_s, oI_n, bI_f, bI_t, i1_0, i0_0, Bool.false_eq_true, not_true_eq_false, not_false_eq_true, nI_0, m1m1, Nat.one_ne_zero, two_ne0, pMt H, H0.isc, noPane_ev O _ H0.w R, noHour_ev, noSeer_ev O _ H0.w, in_ev, Bool.not_false, Bool.not_true, bI_f, bI_t, thr0_ev O _ H0, thr1_ev O _ H0, i1_0, i0_0, z01, o01, tH_tH, Bool.false_eq_true, a1, a2, Bool.and_false]
      rfl
    · have b1 := a1
      obtain ⟨p, hp, rfl⟩ := inB_ix (by omega) a1
      rw [nI_clamp (show p < 2 ^ 31 by omega)]
      obtain ⟨v, e⟩ := isSeen_ev O d H0 R (SH_tH S m 0) T (show p < 30 by omega) y
      refine ⟨_, ?_, sc_hVl v⟩
      cases q : sv W p y <;> rw [q] at e <;> simp only [e_214_0, e_214_1, e_214_2, e_214_5, e_214_6, e_214_7, e_214_8, e_214_11, e_214_14, e_214_15, e_214_18, e_214_21, e_214_22, e_214_25, e_214_26, e_214_27, e_214_30, e_214_33, e_214_34, e_214_35, e_214_36, e_214_39, e_214_42, e_214_43, e_214_46, e_214_47, Option.bind_some, Option.bind_none, m_kt, m_kn, Option.toList_some, Option.toList_none, List.nil_append, List.cons_append, List.append_nil, ltn, ite_not, ↓reduceIte, true_or, or_true, nP1, oI_s, oI_n, bI_f, bI_t, i1_0, i0_0, Bool.false_eq_true, not_true_eq_false, not_false_eq_true, nI_0, m1m1, Nat.one_ne_zero, two_ne0, pMt H, H0.isc, noPane_ev O _ H0.w R, noHour_ev, noSeer_ev O _ H0.w, in_ev, Bool.not_false, Bool.not_true, bI_f, bI_t, thr0_ev O _ H0, thr1_ev O _ H0, i1_0, i0_0, z01, o01, tH_tH, Bool.false_eq_true, b1, a2, Bool.and_true, e] <;> rfl
theorem Mfined_ev (O : mO) (d : Nat) (H : MS h m W) (R : rng W) (S : SH h) (T : TW W) (x y : Int32) : MA (ev O (d + 7) 215 0 [.ref 66, .int x, .int y, mJ, mJ] [] h) h m (nI (codePH W x y)) (.int (if codePH W x y = 0 then fnV W x.toNatClampNeg y else 0)) := by
  have hN := pN_le R
  have H0 := H.t 0
  unfold codePH nPa
  cases a1 : inB x 0 (nI (pN W) - 1)
  · refine ⟨_, ?_, sc.rf _⟩
    simp only [e_215_0, e_215_1, e_215_2, e_215_5, e_215_6, e_215_7, e_215_8, e_215_11, e_215_14, e_215_15, e_215_18, e_215_21, e_215_22, e_215_25, e_215_26, e_215_27, e_215_30, e_215_33, e_215_34, e_215_35, e_215_36, e_215_39, e_215_42, e_215_43, e_215_44, e_215_45, e_215_46, e_215_47, e_215_51, e_215_52, e_215_55, e_215_58, e_215_59, e_215_60, e_215_63, e_215_66, e_215_67, e_215_69, e_215_70, e_215_71, e_215_72, e_215_75, e_215_76, e_215_78, e_215_79, e_215_80, e_215_83, e_215_86, e_215_87, e_215_90, e_215_93, e_215_94, e_215_96, e_215_97, e_215_98, e_215_99, e_215_102, e_215_103, e_215_104, e_215_105, e_215_108, e_215_111, e_215_112, Option.bind_some, Option.bind_none, m_kt, m_kn, Option.toList_some, Option.toList_none, List.nil_append, List.cons_append, List.append_nil, ltn, ite_not, ↓reduceIte, true_or, or_true, nP1, oI_s, oI_n, bI_f, bI_t, i1_0, i0_0, Bool.false_eq_true, not_true_eq_false, not_false_eq_true, nI_0, m1m1, Nat.one_ne_zero, two_ne0, pMt H, H0.isc, noPane_ev O _ H0.w R, noHour_ev, noSeer_ev O _ H0.w, in_ev, Bool.not_false, Bool.not_true, bI_f, bI_t, thr0_ev O _ H0, thr1_ev O _ H0, i1_0, i0_0, z01, o01, tH_tH, Bool.false_eq_true, a1, Bool.false_and]
    rfl
  · cases a2 : inB y 0 23
    · refine ⟨_, ?_, sc.rf _⟩
      simp only [e_215_0, e_215_1, e_215_2, e_215_5, e_215_6, e_215_7, e_215_8, e_215_11, e_215_14, e_215_15, e_215_18, e_215_21, e_215_22, e_215_25, e_215_26, e_215_27, e_215_30, e_215_33, e_215_34, e_215_35, e_215_36, e_215_39, e_215_42, e_215_43, e_215_44, e_215_45, e_215_46, e_215_47, e_215_51, e_215_52, e_215_55, e_215_58, e_215_59, e_215_60, e_215_63, e_215_66, e_215_67, e_215_69, e_215_70, e_215_71, e_215_72, e_215_75, e_215_76, e_215_78, e_215_79, e_215_80, e_215_83, e_215_86, e_215_87, e_215_90, e_215_93, e_215_94, e_215_96, e_215_97, e_215_98, e_215_99, e_215_102, e_215_103, e_215_104, e_215_105, e_215_108, e_215_111, e_215_112, Option.bind_some, Option.bind_none, m_kt, m_kn, Option.toList_some, Option.toList_none, List.nil_append, List.cons_append, List.append_nil, ltn, ite_not, ↓reduceIte, true_or, or_true, nP1, oI_s, oI_n, bI_f, bI_t, i1_0, i0_0, Bool.false_eq_true, not_true_eq_false, not_false_eq_true, nI_0, m1m1, Nat.one_ne_zero, two_ne0, pMt H, H0.isc, noPane_ev O _ H0.w R, noHour_ev, noSeer_ev O _ H0.w, in_ev, Bool.not_false, Bool.not_true, bI_f, bI_t, thr0_ev O _ H0, thr1_ev O _ H0, i1_0, i0_0, z01, o01, tH_tH, Bool.false_eq_true, a1, a2, Bool.and_false]
      rfl
    · have b1 := a1
      obtain ⟨p, hp, rfl⟩ := inB_ix (by omega) a1
      rw [nI_clamp (show p < 2 ^ 31 by omega)]
      have S0 := SH_tH S m 0
      obtain ⟨v, e⟩ := isSeen_ev O d H0 R S0 T (show p < 30 by omega) y
      unfold fnV
      have H1 : ∀ v, MS (hVl (tH h m 0) v) (upd m 0 0) W := fun v => sc_MS (sc_hVl v) H0
      have S1 : ∀ v, SH (hVl (tH h m 0) v) := fun v => (sc_hVl v).2 S0
      cases q : sv W p y
      · rw [q] at e
        refine ⟨_, ?_, sc_hVl v⟩
        simp only [e_215_0, e_215_1, e_215_2, e_215_5, e_215_6, e_215_7, e_215_8, e_215_11, e_215_14, e_215_15, e_215_18, e_215_21, e_215_22, e_215_25, e_215_26, e_215_27, e_215_30, e_215_33, e_215_34, e_215_35, e_215_36, e_215_39, e_215_42, e_215_43, e_215_44, e_215_45, e_215_46, e_215_47, e_215_51, e_215_52, e_215_55, e_215_58, e_215_59, e_215_60, e_215_63, e_215_66, e_215_67, e_215_69, e_215_70, e_215_71, e_215_72, e_215_75, e_215_76, e_215_78, e_215_79, e_215_80, e_215_83, e_215_86, e_215_87, e_215_90, e_215_93, e_215_94, e_215_96, e_215_97, e_215_98, e_215_99, e_215_102, e_215_103, e_215_104, e_215_105, e_215_108, e_215_111, e_215_112, Option.bind_some, Option.bind_none, m_kt, m_kn, Option.toList_some, Option.toList_none, List.nil_append, List.cons_append, List.append_nil, ltn, ite_not, ↓reduceIte, true_or, or_true, nP1, oI_s, oI_n, bI_f, bI_t, i1_0, i0_0, Bool.false_eq_true, not_true_eq_false, not_false_eq_true, nI_0, m1m1, Nat.one_ne_zero, two_ne0, pMt H, H0.isc, noPane_ev O _ H0.w R, noHour_ev, noSeer_ev O _ H0.w, in_ev, Bool.not_false, Bool.not_true, bI_f, bI_t, thr0_ev O _ H0, thr1_ev O _ H0, i1_0, i0_0, z01, o01, tH_tH, Bool.false_eq_true, b1, a2, Bool.and_true, e]
      · rw [q] at e
        have l := lp_runV (ν := Nat → Int32) (F := fun i s v => ev O (d + 7) 215 49 [.ref 66, .int (nI p), .int y, .int s, .int (nI i)] [] (hVl (tH h m 0) v)) (f := fnF W p y) (n := nLn W) (fun i s v hi => by
          obtain ⟨n12, eb, X⟩ := T.ln hi
          have c1 : ¬ nI (nLn W) ≤ nI i := nI_ge hi (by omega)
          obtain ⟨v', et⟩ := holdsLine_ev O (d + 1) (H1 v) R (S1 v) X hi (show p < 30 by omega) y
          rw [hVl_hVl] at et
          have gw : ∀ v, m_ai (hVl (tH h m 0) v) 67 (nI (428 + 3 * i)) = some (W (428 + 3 * i)) := fun v => (H1 v).w.w (by omega)
          unfold fnF
          by_cases le : W (428 + 3 * i) ≤ 0
          · refine ⟨v, ?_⟩
            have fe : (if (!decide (W (428 + 3 * i) < 0) && trw W (fct W p y) i) = true then s + W (428 + 3 * i) else s) = s := by
              by_cases lt : W (428 + 3 * i) < 0
              · rw [decide_eq_true lt]; rfl
              · have z : W (428 + 3 * i) = 0 := Int32.le_antisymm le (Int32.not_lt.mp lt)
                rw [z]
                split
                · exact Int32.add_zero s
                · rfl
            rw [fe, e_215_49]
            simp only [e_215_0, e_215_1, e_215_2, e_215_5, e_215_6, e_215_7, e_215_8, e_215_11, e_215_14, e_215_15, e_215_18, e_215_21, e_215_22, e_215_25, e_215_26, e_215_27, e_215_30, e_215_33, e_215_34, e_215_35, e_215_36, e_215_39, e_215_42, e_215_43, e_215_44, e_215_45, e_215_46, e_215_47, e_215_51, e_215_52, e_215_55, e_215_58, e_215_59, e_215_60, e_215_63, e_215_66, e_215_67, e_215_69, e_215_70, e_215_71, e_215_72, e_215_75, e_215_76, e_215_78, e_215_79, e_215_80, e_215_83, e_215_86, e_215_87, e_215_90, e_215_93, e_215_94, e_215_96, e_215_97, e_215_98, e_215_99, e_215_102, e_215_103, e_215_104, e_215_105, e_215_108, e_215_111, e_215_112, Option.bind_some, Option.bind_none, m_kt, m_kn, Option.toList_some, Option.toList_none, List.nil_append, List.cons_append, List.append_nil, ltn, ite_not, ↓reduceIte, true_or, or_true, nP1, oI_s, oI_n, bI_f, bI_t, i1_0, i0_0, Bool.false_eq_true, not_true_eq_false, not_false_eq_true, (H1 _).isc, lines_ev O (d + 6) (H1 _) T, c1, gM1 (H1 _).1, nx3, nL428, gw, le, Int32.add_zero]
          · refine ⟨v', ?_⟩
            have nlt : ¬ W (428 + 3 * i) < 0 := fun z => le (Int32.le_of_lt z)
            rw [decide_eq_false nlt, Bool.not_false, Bool.true_and, e_215_49]
            cases qq : trw W (fct W p y) i <;> rw [qq] at et <;> simp only [e_215_0, e_215_1, e_215_2, e_215_5, e_215_6, e_215_7, e_215_8, e_215_11, e_215_14, e_215_15, e_215_18, e_215_21, e_215_22, e_215_25, e_215_26, e_215_27, e_215_30, e_215_33, e_215_34, e_215_35, e_215_36, e_215_39, e_215_42, e_215_43, e_215_44, e_215_45, e_215_46, e_215_47, e_215_51, e_215_52, e_215_55, e_215_58, e_215_59, e_215_60, e_215_63, e_215_66, e_215_67, e_215_69, e_215_70, e_215_71, e_215_72, e_215_75, e_215_76, e_215_78, e_215_79, e_215_80, e_215_83, e_215_86, e_215_87, e_215_90, e_215_93, e_215_94, e_215_96, e_215_97, e_215_98, e_215_99, e_215_102, e_215_103, e_215_104, e_215_105, e_215_108, e_215_111, e_215_112, Option.bind_some, Option.bind_none, m_kt, m_kn, Option.toList_some, Option.toList_none, List.nil_append, List.cons_append, List.append_nil, ltn, ite_not, ↓reduceIte, true_or, or_true, nP1, oI_s, oI_n, bI_f, bI_t, i1_0, i0_0, Bool.false_eq_true, not_true_eq_false, not_false_eq_true, (H1 _).isc, lines_ev O (d + 6) (H1 _) T, c1, gM1 (H1 _).1, nx3, nL428, gw, le, et, Int32.add_zero]) 0 v
        obtain ⟨v', l⟩ := l
        simp only [nI_0] at l
        refine ⟨_, ?_, sc_hVl v'⟩
        simp only [e_215_0, e_215_1, e_215_2, e_215_5, e_215_6, e_215_7, e_215_8, e_215_11, e_215_14, e_215_15, e_215_18, e_215_21, e_215_22, e_215_25, e_215_26, e_215_27, e_215_30, e_215_33, e_215_34, e_215_35, e_215_36, e_215_39, e_215_42, e_215_43, e_215_44, e_215_45, e_215_46, e_215_47, e_215_51, e_215_52, e_215_55, e_215_58, e_215_59, e_215_60, e_215_63, e_215_66, e_215_67, e_215_69, e_215_70, e_215_71, e_215_72, e_215_75, e_215_76, e_215_78, e_215_79, e_215_80, e_215_83, e_215_86, e_215_87, e_215_90, e_215_93, e_215_94, e_215_96, e_215_97, e_215_98, e_215_99, e_215_102, e_215_103, e_215_104, e_215_105, e_215_108, e_215_111, e_215_112, Option.bind_some, Option.bind_none, m_kt, m_kn, Option.toList_some, Option.toList_none, List.nil_append, List.cons_append, List.append_nil, ltn, ite_not, ↓reduceIte, true_or, or_true, nP1, oI_s, oI_n, bI_f, bI_t, i1_0, i0_0, Bool.false_eq_true, not_true_eq_false, not_false_eq_true, nI_0, m1m1, Nat.one_ne_zero, two_ne0, pMt H, H0.isc, noPane_ev O _ H0.w R, noHour_ev, noSeer_ev O _ H0.w, in_ev, Bool.not_false, Bool.not_true, bI_f, bI_t, thr0_ev O _ H0, thr1_ev O _ H0, i1_0, i0_0, z01, o01, tH_tH, Bool.false_eq_true, b1, a2, Bool.and_true, e]
        refine l.trans ?_
        rw [e_215_49]
        simp only [e_215_0, e_215_1, e_215_2, e_215_5, e_215_6, e_215_7, e_215_8, e_215_11, e_215_14, e_215_15, e_215_18, e_215_21, e_215_22, e_215_25, e_215_26, e_215_27, e_215_30, e_215_33, e_215_34, e_215_35, e_215_36, e_215_39, e_215_42, e_215_43, e_215_44, e_215_45, e_215_46, e_215_47, e_215_51, e_215_52, e_215_55, e_215_58, e_215_59, e_215_60, e_215_63, e_215_66, e_215_67, e_215_69, e_215_70, e_215_71, e_215_72, e_215_75, e_215_76, e_215_78, e_215_79, e_215_80, e_215_83, e_215_86, e_215_87, e_215_90, e_215_93, e_215_94, e_215_96, e_215_97, e_215_98, e_215_99, e_215_102, e_215_103, e_215_104, e_215_105, e_215_108, e_215_111, e_215_112, Option.bind_some, Option.bind_none, m_kt, m_kn, Option.toList_some, Option.toList_none, List.nil_append, List.cons_append, List.append_nil, ltn, ite_not, ↓reduceIte, true_or, or_true, nP1, oI_s, oI_n, bI_f, bI_t, i1_0, i0_0, Bool.false_eq_true, not_true_eq_false, not_false_eq_true, (H1 _).isc, lines_ev O (d + 6) (H1 _) T, Int32.le_refl]
end SeenQ
