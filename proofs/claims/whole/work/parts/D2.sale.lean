/-! The class's sale and lost -/
section SaleG
variable {h : mH} {g : gT} {W : WD}
def codeSa (W : WD) (y x : Int32) : Nat := if (inB y 0 23 && (decide (x = -1) || inB x 0 (nI (sN W) - 1))) = true then 0 else 1
def salV (W : WD) (y x : Int32) : Int32 := if x = -1 then nI (payS W (fun p => sv W p y) (pN W) 0) else nI (digS W (fun p => sv W p y) (pN W) x.toNatClampNeg) - 1
theorem Gsale_ev (O : mO) (d : Nat) (P : PLC O) (C : CG h g W) (ha : g.2.2.1 = 28 ∨ g.2.2.1 = 35) (L : LA h g.2.2.1 W) (y x : Int32) : GA (ev O (d + 6) 120 0 [.ref 0, .int y, .int x] [] h) h (if codeSa W y x = 1 then some 1 else none) (.int (salV W y x)) := by
  obtain ⟨G, H, ga, R, S⟩ := C
  have hN := pN_le R
  have h6 : sN W ≤ 6 := R.1.2.2.2.1.2
  unfold codeSa salV
  obtain ⟨s0, e63⟩ := S.2.2.2.1
  cases a1 : inB y 0 23
  · simp only [Bool.false_and, Bool.false_eq_true, ↓reduceIte]
    show _ = _
    simp only [e_120_0, e_120_1, e_120_4, e_120_5, e_120_6, e_120_9, e_120_10, e_120_11, e_120_14, e_120_15, e_120_18, e_120_19, e_120_22, e_120_23, e_120_26, e_120_27, e_120_30, e_120_31, e_120_32, e_120_35, e_120_36, e_120_39, e_120_42, e_120_45, e_120_46, e_120_49, e_120_50, e_120_53, Option.bind_some, Option.bind_none, m_kt, m_kn, Option.toList_some, Option.toList_none, List.nil_append, List.cons_append, List.append_nil, ltn, ite_not, ↓reduceIte, true_or, or_true, nP1, oI_s, oI_n, bI_f, bI_t, i1_0, i0_0, Bool.false_eq_true, not_true_eq_false, not_false_eq_true, iscG G, checkPane_ev O _ G H R, checkHour_ev, checkWithin_ev, checkOwner_ev, checkSeer_ev O _ G H R, gG0 G, H.isc, Bool.false_eq_true, a1]
  · obtain ⟨h', es, s1, K⟩ := sell_ev O d P H ga R S ha L y
    have G1 : h'.1[0]? = some (oG g) := (sc_at s1 (by decide)).trans G
    by_cases a2 : x = -1
    · subst a2
      simp only [decide_true, Bool.true_or, Bool.and_self, ↓reduceIte, Nat.zero_ne_one]
      refine ⟨h', ?_, s1⟩
      simp only [e_120_0, e_120_1, e_120_4, e_120_5, e_120_6, e_120_9, e_120_10, e_120_11, e_120_14, e_120_15, e_120_18, e_120_19, e_120_22, e_120_23, e_120_26, e_120_27, e_120_30, e_120_31, e_120_32, e_120_35, e_120_36, e_120_39, e_120_42, e_120_45, e_120_46, e_120_49, e_120_50, e_120_53, Option.bind_some, Option.bind_none, m_kt, m_kn, Option.toList_some, Option.toList_none, List.nil_append, List.cons_append, List.append_nil, ltn, ite_not, ↓reduceIte, true_or, or_true, nP1, oI_s, oI_n, bI_f, bI_t, i1_0, i0_0, Bool.false_eq_true, not_true_eq_false, not_false_eq_true, iscG G, checkPane_ev O _ G H R, checkHour_ev, checkWithin_ev, checkOwner_ev, checkSeer_ev O _ G H R, gG0 G, H.isc, Bool.false_eq_true, a1, iMk e63, gG10 G, gG3 G, es, gG10 G1, iMk K.1, paidByAll_ev O (d + 4) R hN K]
    · cases a3 : inB x 0 (nI (sN W) - 1)
      · simp only [decide_eq_false a2, Bool.or_self, Bool.and_false, Bool.false_eq_true, ↓reduceIte]
        show _ = _
        simp only [e_120_0, e_120_1, e_120_4, e_120_5, e_120_6, e_120_9, e_120_10, e_120_11, e_120_14, e_120_15, e_120_18, e_120_19, e_120_22, e_120_23, e_120_26, e_120_27, e_120_30, e_120_31, e_120_32, e_120_35, e_120_36, e_120_39, e_120_42, e_120_45, e_120_46, e_120_49, e_120_50, e_120_53, Option.bind_some, Option.bind_none, m_kt, m_kn, Option.toList_some, Option.toList_none, List.nil_append, List.cons_append, List.append_nil, ltn, ite_not, ↓reduceIte, true_or, or_true, nP1, oI_s, oI_n, bI_f, bI_t, i1_0, i0_0, Bool.false_eq_true, not_true_eq_false, not_false_eq_true, iscG G, checkPane_ev O _ G H R, checkHour_ev, checkWithin_ev, checkOwner_ev, checkSeer_ev O _ G H R, gG0 G, H.isc, Bool.false_eq_true, a1, a2, a3]
      · have b3 := a3
        obtain ⟨s, hs, rfl⟩ := inB_ix (by omega) a3
        simp only [Bool.or_true, Bool.and_self, ↓reduceIte, Nat.zero_ne_one]
        rw [if_neg a2, nI_clamp (show s < 2 ^ 31 by omega)]
        refine ⟨h', ?_, s1⟩
        simp only [e_120_0, e_120_1, e_120_4, e_120_5, e_120_6, e_120_9, e_120_10, e_120_11, e_120_14, e_120_15, e_120_18, e_120_19, e_120_22, e_120_23, e_120_26, e_120_27, e_120_30, e_120_31, e_120_32, e_120_35, e_120_36, e_120_39, e_120_42, e_120_45, e_120_46, e_120_49, e_120_50, e_120_53, Option.bind_some, Option.bind_none, m_kt, m_kn, Option.toList_some, Option.toList_none, List.nil_append, List.cons_append, List.append_nil, ltn, ite_not, ↓reduceIte, true_or, or_true, nP1, oI_s, oI_n, bI_f, bI_t, i1_0, i0_0, Bool.false_eq_true, not_true_eq_false, not_false_eq_true, iscG G, checkPane_ev O _ G H R, checkHour_ev, checkWithin_ev, checkOwner_ev, checkSeer_ev O _ G H R, gG0 G, H.isc, Bool.false_eq_true, a1, a2, b3, iMk e63, gG10 G, gG3 G, es, gG10 G1, iMk K.1, soldTo_ev O (d + 4) P R hN K (show s < 6 by omega)]
end SaleG
section LostG
variable {h : mH} {g : gT} {W : WD}
def codeLo (W : WD) (y x : Int32) : Nat := if (inB y 0 23 && inB x 0 (nI (sN W) - 1)) = true then 0 else 1
def losV (W : WD) (y x : Int32) : Int32 := nI (payS W (fun p => sv W p y) (pN W) (2 ^ x.toNatClampNeg)) - (nI (payS W (fun p => sv W p y) (pN W) 0) - nI (pv (oW W) x.toNatClampNeg (digS W (fun p => sv W p y) (pN W) x.toNatClampNeg)))
theorem Glost_ev (O : mO) (d : Nat) (P : PLC O) (C : CG h g W) (ha : g.2.2.1 = 28 ∨ g.2.2.1 = 35) (L : LA h g.2.2.1 W) (y x : Int32) : GA (ev O (d + 6) 121 0 [.ref 0, .int y, .int x, mJ, mJ] [] h) h (if codeLo W y x = 1 then some 1 else none) (.int (losV W y x)) := by
  obtain ⟨G, H, ga, R, S⟩ := C
  have hN := pN_le R
  have h6 : sN W ≤ 6 := R.1.2.2.2.1.2
  unfold codeLo losV
  obtain ⟨s0, e63⟩ := S.2.2.2.1
  cases a1 : inB y 0 23
  · simp only [Bool.false_and, Bool.false_eq_true, ↓reduceIte]
    show _ = _
    simp only [e_121_0, e_121_1, e_121_4, e_121_5, e_121_6, e_121_9, e_121_10, e_121_13, e_121_14, e_121_17, e_121_18, e_121_21, e_121_22, e_121_25, e_121_26, e_121_29, e_121_30, e_121_33, e_121_34, e_121_35, e_121_36, e_121_39, e_121_40, e_121_43, e_121_44, e_121_47, e_121_50, e_121_52, e_121_53, e_121_54, e_121_55, e_121_56, e_121_57, e_121_59, e_121_60, e_121_63, e_121_64, e_121_67, e_121_68, e_121_71, e_121_74, e_121_76, e_121_77, e_121_78, Option.bind_some, Option.bind_none, m_kt, m_kn, Option.toList_some, Option.toList_none, List.nil_append, List.cons_append, List.append_nil, ltn, ite_not, ↓reduceIte, true_or, or_true, nP1, oI_s, oI_n, bI_f, bI_t, i1_0, i0_0, Bool.false_eq_true, not_true_eq_false, not_false_eq_true, iscG G, checkPane_ev O _ G H R, checkHour_ev, checkWithin_ev, checkOwner_ev, checkSeer_ev O _ G H R, gG0 G, H.isc, Bool.false_eq_true, a1]
  · cases a3 : inB x 0 (nI (sN W) - 1)
    · simp only [Bool.and_false, Bool.false_eq_true, ↓reduceIte]
      show _ = _
      simp only [e_121_0, e_121_1, e_121_4, e_121_5, e_121_6, e_121_9, e_121_10, e_121_13, e_121_14, e_121_17, e_121_18, e_121_21, e_121_22, e_121_25, e_121_26, e_121_29, e_121_30, e_121_33, e_121_34, e_121_35, e_121_36, e_121_39, e_121_40, e_121_43, e_121_44, e_121_47, e_121_50, e_121_52, e_121_53, e_121_54, e_121_55, e_121_56, e_121_57, e_121_59, e_121_60, e_121_63, e_121_64, e_121_67, e_121_68, e_121_71, e_121_74, e_121_76, e_121_77, e_121_78, Option.bind_some, Option.bind_none, m_kt, m_kn, Option.toList_some, Option.toList_none, List.nil_append, List.cons_append, List.append_nil, ltn, ite_not, ↓reduceIte, true_or, or_true, nP1, oI_s, oI_n, bI_f, bI_t, i1_0, i0_0, Bool.false_eq_true, not_true_eq_false, not_false_eq_true, iscG G, checkPane_ev O _ G H R, checkHour_ev, checkWithin_ev, checkOwner_ev, checkSeer_ev O _ G H R, gG0 G, H.isc, Bool.false_eq_true, a1, a3]
    · have b3 := a3
      obtain ⟨s, hs, rfl⟩ := inB_ix (by omega) a3
      obtain ⟨h', es, s1, K⟩ := sell_ev O d P H ga R S ha L y
      have G1 : h'.1[0]? = some (oG g) := (sc_at s1 (by decide)).trans G
      have H1 := sc_CA s1 H ga
      simp only [Bool.and_self, ↓reduceIte, Nat.zero_ne_one]
      rw [nI_clamp (show s < 2 ^ 31 by omega)]
      refine ⟨h', ?_, s1⟩
      have so := soldTo_ev O (d + 4) P R hN K (show s < 6 by omega)
      have pw := paidWithout_ev O (d + 4) R hN K (show s < 6 by omega)
      have pa := paidByAll_ev O (d + 4) R hN K
      have d30 : digS W (fun p => sv W p y) (pN W) s ≤ 30 := by unfold digS; omega
      generalize digS W (fun p => sv W p y) (pN W) s = D at *
      cases D with
      | zero =>
        have m1 : nI 0 - 1 = -1 := by decide
        rw [m1] at so
        simp only [e_121_0, e_121_1, e_121_4, e_121_5, e_121_6, e_121_9, e_121_10, e_121_13, e_121_14, e_121_17, e_121_18, e_121_21, e_121_22, e_121_25, e_121_26, e_121_29, e_121_30, e_121_33, e_121_34, e_121_35, e_121_36, e_121_39, e_121_40, e_121_43, e_121_44, e_121_47, e_121_50, e_121_52, e_121_53, e_121_54, e_121_55, e_121_56, e_121_57, e_121_59, e_121_60, e_121_63, e_121_64, e_121_67, e_121_68, e_121_71, e_121_74, e_121_76, e_121_77, e_121_78, Option.bind_some, Option.bind_none, m_kt, m_kn, Option.toList_some, Option.toList_none, List.nil_append, List.cons_append, List.append_nil, ltn, ite_not, ↓reduceIte, true_or, or_true, nP1, oI_s, oI_n, bI_f, bI_t, i1_0, i0_0, Bool.false_eq_true, not_true_eq_false, not_false_eq_true, iscG G, checkPane_ev O _ G H R, checkHour_ev, checkWithin_ev, checkOwner_ev, checkSeer_ev O _ G H R, gG0 G, H.isc, Bool.false_eq_true, a1, b3, iMk e63, gG10 G, gG3 G, es, gG10 G1, iMk K.1, so, pw, pa, pv, nI_0]
      | succ D =>
        obtain ⟨o1, o2⟩ := of_e R (show s < 6 by omega) (show D < 30 by omega)
        have n1 : ¬ nI D = -1 := fun z => nI_pos (show D < 2 ^ 31 by omega) (by rw [z]; decide)
        have go : m_ai h' (g.1 + 8) (nI (30 * s + D)) = some (nI (oW W s D)) := by rw [H1.of (by omega), o1]
        have pe : pv (oW W) s (D + 1) = oW W s D := rfl
        rw [nI_pred] at so
        rw [pe]
        simp only [e_121_0, e_121_1, e_121_4, e_121_5, e_121_6, e_121_9, e_121_10, e_121_13, e_121_14, e_121_17, e_121_18, e_121_21, e_121_22, e_121_25, e_121_26, e_121_29, e_121_30, e_121_33, e_121_34, e_121_35, e_121_36, e_121_39, e_121_40, e_121_43, e_121_44, e_121_47, e_121_50, e_121_52, e_121_53, e_121_54, e_121_55, e_121_56, e_121_57, e_121_59, e_121_60, e_121_63, e_121_64, e_121_67, e_121_68, e_121_71, e_121_74, e_121_76, e_121_77, e_121_78, Option.bind_some, Option.bind_none, m_kt, m_kn, Option.toList_some, Option.toList_none, List.nil_append, List.cons_append, List.append_nil, ltn, ite_not, ↓reduceIte, true_or, or_true, nP1, oI_s, oI_n, bI_f, bI_t, i1_0, i0_0, Bool.false_eq_true, not_true_eq_false, not_false_eq_true, iscG G, checkPane_ev O _ G H R, checkHour_ev, checkWithin_ev, checkOwner_ev, checkSeer_ev O _ G H R, gG0 G, H.isc, Bool.false_eq_true, a1, b3, iMk e63, gG10 G, gG3 G, es, gG10 G1, gG0 G1, gC15 H1, n30, nA, go, iMk K.1, so, n1, pw, pa]
end LostG
