/-! The class's sale and lost -/
section SaleG
variable {h : mH} {g : gT} {W : WD}
def codeSa (W : WD) (y x : Int32) : Nat := if (inB y 0 23 && (decide (x = -1) || inB x 0 (nI (sN W) - 1))) = true then 0 else 1
def salV (W : WD) (y x : Int32) : Int32 := if x = -1 then nI (payS W (fun p => sv W p y) (pN W) 0) else nI (digS W (fun p => sv W p y) (pN W) x.toNatClampNeg) - 1
theorem Gsale_ev (O : mO) (d : Nat) (P : PLC O) (C : CG h g W) (ha : g.2.2.1 = 28 ∨ g.2.2.1 = 35) (L : LA h g.2.2.1 W) (y x : Int32) : GA (ev O (d + 6) 120 0 [.ref 0, .int y, .int x] [] h) h (if codeSa W y x = 1 then some 1 else none) (.int (salV W y x)) := by
  obtain ⟨G, H, ga, R, S⟩ := C
  have hN := pN_le R
  have h6 : sN W ≤ 6 := R.1.2.2.2.1.2
  unfold codeSa salV
  obtain ⟨s0, e63⟩ := S.2.2.2.1
  cases a1 : inB y 0 23
  · simp only [Bool.false_and, Bool.false_eq_true, ↓reduceIte]
    show _ = _
    simp only [e_120_0, e_120_1, e_120_4, e_120_5, e_120_6, e_120_9, e_120_10, e_120_11, e_120_14, e_120_15, e_120_18, e_120_19, e_120_22, e_120_23, e_120_26, e_120_27, e_120_30, e_120_31, e_120_32, e_120_35, e_120_36, e_120_39, e_120_42, e_120_45, e_120_46, e_120_49, e_120_50, e_120_53, Option.bind_some, Option.bind_none, m_kt, m_kn, Option.toList_some, Option.toList_none, List.nil_append, List.cons_append, List.append_nil, ltn, ite_not, ↓reduceIte, true_or, or_true, nP1, oI_s, oI_n, bI_f, bI_t, i1_0, i0_0, Bool.false_eq_true, not_true_eq_false, not_false_eq_true, iscG G, checkPane_ev O _ G H R, checkHour_ev, checkWithin_ev, checkOwner_ev, checkSeer_ev O _ G H R, gG0 G, H.isc, Bool.false_eq_true, a1]
  · obtain ⟨h', es, s1, K⟩ := sell_ev O d P H ga R S ha L y
    have G1 : h'.1[0]? = some (oG g) := (sc_at s1 (by decide)).trans G
    by_cases a2 : x = -1
    · subst a2
      simp only [decide_true, Bool.true_or, Bool.and_self, ↓reduceIte, Nat.zero_ne_one]
      refine ⟨h', ?_, s1⟩
      simp only [e_120_0, e_120_1, e_120_4, e_120_5, e_120_6, e_120_9, e_120_10, e_120_11, e_120_14, e_120_15, e_120_18, e_120_19, e_120_22, e_120_23, e_120_26, e_120_27, e_120_30, e_120_31, e_120_32, e_120_35, e_120_36, e_120_39, e_120_42, e_120_45, e_120_46, e_120_49, e_120_50, e_120_53, Option.bind_some, Option.bind_none, m_kt, m_kn, Option.toList_some, Option.toList_none, List.nil_append, List.cons_append, List.append_nil, ltn, ite_not, ↓reduceIte, true_or, or_true, nP1, oI_s, oI_n, bI_f, bI_t, i1_0, i0_0, Bool.false_eq_true, not_true_eq_false, not_false_eq_true, iscG G, checkPane_ev O _ G H R, checkHour_ev, checkWithin_ev, checkOwner_ev, checkSeer_ev O _ G H R, gG0 G, H.isc, Bool.false_eq_true, a1, iMk e63, gG10 G, gG3 G, es, gG10 G1, iMk K.1, paidByAll_ev O (d + 4) R hN K]
    · cases a3 : inB x 0 (nI (sN W) - 1)
      · simp only [decide_eq_false a2, Bool.or_self, Bool.and_false, Bool.false_eq_true, ↓reduceIte]
        show _ = _
        simp only [e_120_0, e_120_1, e_120_4, e_120_5, e_120_6, e_120_9, e_120_10, e_120_11, e_120_14, e_120_15, e_120_18, e_120_19, e_120_22, e_120_23, e_120_26, e_120_27, e_120_30, e_120_31, e_120_32, e_120_35, e_120_36, e_120_39, e_120_42, e_120_45, e_120_46, e_120_49, e_120_50, e_120_53, Option.bind_some, Option.bind_none, m_kt, m_kn, Option.toList_some, Option.toList_none, List.nil_append, List.cons_append, List.append_nil, ltn, ite_not, ↓reduceIte, true_or, or_true, nP1, oI_s, oI_n, bI_f, bI_t, i1_0, i0_0, Bool.false_eq_true, not_true_eq_false, not_false_eq_true, iscG G, checkPane_ev O _ G H R, checkHour_ev, checkWithin_ev, checkOwner_ev, checkSeer_ev O _ G H R, gG0 G, H.isc, Bool.false_eq_true, a1, a2, a3]
      · have b3 := a3
        obtain ⟨s, hs, rfl⟩ := inB_ix (by omega) a3
        simp only [Bool.or_true, Bool.and_self, ↓reduceIte, Nat.zero_ne_one]
        rw [if_neg a2, nI_clamp (show s < 2 ^ 31 by omega)]
        refine ⟨h', ?_, s1⟩
        simp only [e_120_0, e_120_1, e_120_4, e_120_5, e_120_6, e_120_9, e_120_10, e_120_11, e_120_14, e_120_15, e_120_18, e_120_19, e_120_22, e_120_23, e_120_26, e_120_27, e_120_30, e_120_31, e_120_32, e_120_35, e_120_36, e_120_39, e_120_42, e_120_45, e_120_46, e_120_49, e_120_50, e_120_53, Option.bind_some, Option.bind_none, m_kt, m_kn, Option.toList_some, Option.toList_none, List.nil_append, List.cons_append, List.append_nil, ltn, ite_not, ↓reduceIte, true_or, or_true, nP1, oI_s, oI_n, bI_f, bI_t, i1_0, i0_0, Bool.false_eq_true, not_true_eq_false, not_false_eq_true, iscG G, checkPane_ev O _ G H R, checkHour_ev, checkWithin_ev, checkOwner_ev, checkSeer_ev O _ G H R, gG0 G, H.isc, Bool.false_eq_true, a1, a2, b3, iMk e63, gG10 G, gG3 G, es, gG10 G1, iMk K.1, soldTo_ev O (d + 4) P R hN K (show s < 6 by omega)]
end SaleG
