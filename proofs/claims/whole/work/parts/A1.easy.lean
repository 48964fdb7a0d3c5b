/-! Calls that ask: carts, loads, light, bills -/
section EasyG
variable {h : mH} {g : gT} {W : WD}
def codePH (W : WD) (x y : Int32) : Nat := if (nPa W x && inB y 0 23) = true then 0 else 1
theorem Gload_ev (O : mO) (d : Nat) (C : CG h g W) (x y : Int32) : GA (ev O (d + 2) 111 0 [.ref 0, .int x, .int y] [] h) h (if codePH W x y = 1 then some 1 else none) (.int (loadS W x y)) := by
  obtain ⟨G, H, ga, R, S⟩ := C
  have hN := pN_le R
  unfold codePH nPa
  cases a1 : inB x 0 (nI (pN W) - 1)
  · simp only [Bool.false_and, Bool.false_eq_true, ↓reduceIte]
    show _ = _
    simp only [e_111_0, e_111_1, e_111_2, e_111_5, e_111_6, e_111_9, e_111_10, e_111_13, e_111_14, e_111_15, e_111_18, Option.bind_some, Option.bind_none, m_kt, m_kn, Option.toList_some, Option.toList_none, List.nil_append, List.cons_append, List.append_nil, ltn, ite_not, ↓reduceIte, true_or, or_true, nP1, oI_s, oI_n, bI_f, bI_t, i1_0, i0_0, Bool.false_eq_true, not_true_eq_false, not_false_eq_true, iscG G, checkPane_ev O _ G H R, checkHour_ev, checkWithin_ev, checkOwner_ev, checkSeer_ev O _ G H R, gG0 G, H.isc, Bool.false_eq_true, a1]
  · cases a2 : inB y 0 23
    · simp only [Bool.and_false, Bool.false_eq_true, ↓reduceIte]
      show _ = _
      simp only [e_111_0, e_111_1, e_111_2, e_111_5, e_111_6, e_111_9, e_111_10, e_111_13, e_111_14, e_111_15, e_111_18, Option.bind_some, Option.bind_none, m_kt, m_kn, Option.toList_some, Option.toList_none, List.nil_append, List.cons_append, List.append_nil, ltn, ite_not, ↓reduceIte, true_or, or_true, nP1, oI_s, oI_n, bI_f, bI_t, i1_0, i0_0, Bool.false_eq_true, not_true_eq_false, not_false_eq_true, iscG G, checkPane_ev O _ G H R, checkHour_ev, checkWithin_ev, checkOwner_ev, checkSeer_ev O _ G H R, gG0 G, H.isc, Bool.false_eq_true, a1, a2]
    · simp only [Bool.and_true, ↓reduceIte, Nat.zero_ne_one]
      refine ⟨h, ?_, sc.rf h⟩
      simp only [e_111_0, e_111_1, e_111_2, e_111_5, e_111_6, e_111_9, e_111_10, e_111_13, e_111_14, e_111_15, e_111_18, Option.bind_some, Option.bind_none, m_kt, m_kn, Option.toList_some, Option.toList_none, List.nil_append, List.cons_append, List.append_nil, ltn, ite_not, ↓reduceIte, true_or, or_true, nP1, oI_s, oI_n, bI_f, bI_t, i1_0, i0_0, Bool.false_eq_true, not_true_eq_false, not_false_eq_true, iscG G, checkPane_ev O _ G H R, checkHour_ev, checkWithin_ev, checkOwner_ev, checkSeer_ev O _ G H R, gG0 G, H.isc, Bool.false_eq_true, a1, a2, loadOn_ev O d H R]
def codeHo (W : WD) (x y z : Int32) : Nat := if (nPa W x && inB y 0 23) = true then (if inB z 0 999 = true then 0 else 2) else 1
theorem Gholds_ev (O : mO) (d : Nat) (C : CG h g W) (x y z : Int32) : GA (ev O (d + 3) 112 0 [.ref 0, .int x, .int y, .int z] [] h) h (if codeHo W x y z = 1 then some 1 else if codeHo W x y z = 2 then some 0 else none) (.int (bI (hlB W x.toNatClampNeg y z))) := by
  obtain ⟨G, H, ga, R, S⟩ := C
  have hN := pN_le R
  unfold codeHo nPa
  cases a1 : inB x 0 (nI (pN W) - 1)
  · simp only [Bool.false_and, Bool.false_eq_true, ↓reduceIte]
    show _ = _
    simp only [e_112_0, e_112_1, e_112_2, e_112_5, e_112_6, e_112_9, e_112_10, e_112_11, e_112_14, e_112_17, e_112_18, e_112_21, e_112_22, e_112_23, e_112_24, e_112_27, Option.bind_some, Option.bind_none, m_kt, m_kn, Option.toList_some, Option.toList_none, List.nil_append, List.cons_append, List.append_nil, ltn, ite_not, ↓reduceIte, true_or, or_true, nP1, oI_s, oI_n, bI_f, bI_t, i1_0, i0_0, Bool.false_eq_true, not_true_eq_false, not_false_eq_true, iscG G, checkPane_ev O _ G H R, checkHour_ev, checkWithin_ev, checkOwner_ev, checkSeer_ev O _ G H R, gG0 G, H.isc, Bool.false_eq_true, a1]
  · cases a2 : inB y 0 23
    · simp only [Bool.and_false, Bool.false_eq_true, ↓reduceIte]
      show _ = _
      simp only [e_112_0, e_112_1, e_112_2, e_112_5, e_112_6, e_112_9, e_112_10, e_112_11, e_112_14, e_112_17, e_112_18, e_112_21, e_112_22, e_112_23, e_112_24, e_112_27, Option.bind_some, Option.bind_none, m_kt, m_kn, Option.toList_some, Option.toList_none, List.nil_append, List.cons_append, List.append_nil, ltn, ite_not, ↓reduceIte, true_or, or_true, nP1, oI_s, oI_n, bI_f, bI_t, i1_0, i0_0, Bool.false_eq_true, not_true_eq_false, not_false_eq_true, iscG G, checkPane_ev O _ G H R, checkHour_ev, checkWithin_ev, checkOwner_ev, checkSeer_ev O _ G H R, gG0 G, H.isc, Bool.false_eq_true, a1, a2]
    · cases a3 : inB z 0 999
      · simp only [Bool.and_true, Bool.false_eq_true, ↓reduceIte]
        show _ = _
        simp only [e_112_0, e_112_1, e_112_2, e_112_5, e_112_6, e_112_9, e_112_10, e_112_11, e_112_14, e_112_17, e_112_18, e_112_21, e_112_22, e_112_23, e_112_24, e_112_27, Option.bind_some, Option.bind_none, m_kt, m_kn, Option.toList_some, Option.toList_none, List.nil_append, List.cons_append, List.append_nil, ltn, ite_not, ↓reduceIte, true_or, or_true, nP1, oI_s, oI_n, bI_f, bI_t, i1_0, i0_0, Bool.false_eq_true, not_true_eq_false, not_false_eq_true, iscG G, checkPane_ev O _ G H R, checkHour_ev, checkWithin_ev, checkOwner_ev, checkSeer_ev O _ G H R, gG0 G, H.isc, Bool.false_eq_true, a1, a2, a3]
      · simp only [Bool.and_true, ↓reduceIte]
        have b1 := a1
        obtain ⟨p, hp, rfl⟩ := inB_ix (by omega) a1
        refine ⟨h, ?_, sc.rf h⟩
        rw [nI_clamp (show p < 2 ^ 31 by omega)]
        simp only [e_112_0, e_112_1, e_112_2, e_112_5, e_112_6, e_112_9, e_112_10, e_112_11, e_112_14, e_112_17, e_112_18, e_112_21, e_112_22, e_112_23, e_112_24, e_112_27, Option.bind_some, Option.bind_none, m_kt, m_kn, Option.toList_some, Option.toList_none, List.nil_append, List.cons_append, List.append_nil, ltn, ite_not, ↓reduceIte, true_or, or_true, nP1, oI_s, oI_n, bI_f, bI_t, i1_0, i0_0, Bool.false_eq_true, not_true_eq_false, not_false_eq_true, iscG G, checkPane_ev O _ G H R, checkHour_ev, checkWithin_ev, checkOwner_ev, checkSeer_ev O _ G H R, gG0 G, H.isc, Bool.false_eq_true, b1, a2, a3, holdsWith_ev O d H R (show p < 30 by omega), bI_01]
def codeHr (y : Int32) : Nat := if inB y 0 23 = true then 0 else 1
def brkV (W : WD) (y : Int32) : Int32 := bs (pN W) (fun p => !hlB W p y 0)
theorem Gbreaks_ev (O : mO) (d : Nat) (C : CG h g W) (y : Int32) : GA (ev O (d + 3) 113 0 [.ref 0, .int y, mJ, mJ] [] h) h (if codeHr y = 1 then some 1 else none) (.int (brkV W y)) := by
  obtain ⟨G, H, ga, R, S⟩ := C
  have hN := pN_le R
  unfold codeHr
  cases a2 : inB y 0 23
  · simp only [Bool.false_eq_true, ↓reduceIte]
    show _ = _
    simp only [e_113_0, e_113_1, e_113_4, e_113_5, e_113_6, e_113_7, e_113_8, e_113_9, e_113_10, e_113_13, e_113_16, e_113_19, e_113_20, e_113_23, e_113_24, e_113_25, e_113_26, e_113_29, e_113_32, e_113_33, e_113_34, e_113_35, e_113_36, e_113_37, e_113_38, e_113_41, e_113_44, e_113_45, Option.bind_some, Option.bind_none, m_kt, m_kn, Option.toList_some, Option.toList_none, List.nil_append, List.cons_append, List.append_nil, ltn, ite_not, ↓reduceIte, true_or, or_true, nP1, oI_s, oI_n, bI_f, bI_t, i1_0, i0_0, Bool.false_eq_true, not_true_eq_false, not_false_eq_true, iscG G, checkPane_ev O _ G H R, checkHour_ev, checkWithin_ev, checkOwner_ev, checkSeer_ev O _ G H R, gG0 G, H.isc, Bool.false_eq_true, a2]
  · simp only [↓reduceIte, Nat.zero_ne_one]
    refine ⟨h, ?_, sc.rf h⟩
    have e := lp_run (F := fun i s => ev O (d + 3) 113 8 [.ref 0, .int y, .int s, .int (nI i)] [] h) (f := fun p s => if (!hlB W p y 0) = true then s ||| shl1 p else s) (n := pN W) (fun i s hi => by
      have h1 : ¬ nI (pN W) ≤ nI i := nI_ge hi (by omega)
      rw [e_113_8]
      cases hc : hlB W i y 0 <;> simp only [e_113_0, e_113_1, e_113_4, e_113_5, e_113_6, e_113_7, e_113_9, e_113_10, e_113_13, e_113_16, e_113_19, e_113_20, e_113_23, e_113_24, e_113_25, e_113_26, e_113_29, e_113_32, e_113_33, e_113_34, e_113_35, e_113_36, e_113_37, e_113_38, e_113_41, e_113_44, e_113_45, Option.bind_some, Option.bind_none, m_kt, m_kn, Option.toList_some, Option.toList_none, List.nil_append, List.cons_append, List.append_nil, ltn, ite_not, ↓reduceIte, true_or, or_true, nP1, oI_s, oI_n, bI_f, bI_t, i1_0, i0_0, Bool.false_eq_true, not_true_eq_false, not_false_eq_true, iscG G, checkPane_ev O _ G H R, checkHour_ev, checkWithin_ev, checkOwner_ev, checkSeer_ev O _ G H R, gG0 G, H.isc, Bool.false_eq_true, gC2 H, h1, holdsWith_ev O d H R (show i < 30 by omega), hc, shl_nI, Bool.not_true, Bool.not_false]) 0
    simp only [nI_0] at e
    simp only [e_113_0, e_113_1, e_113_4, e_113_5, e_113_6, e_113_7, e_113_9, e_113_10, e_113_13, e_113_16, e_113_19, e_113_20, e_113_23, e_113_24, e_113_25, e_113_26, e_113_29, e_113_32, e_113_33, e_113_34, e_113_35, e_113_36, e_113_37, e_113_38, e_113_41, e_113_44, e_113_45, Option.bind_some, Option.bind_none, m_kt, m_kn, Option.toList_some, Option.toList_none, List.nil_append, List.cons_append, List.append_nil, ltn, ite_not, ↓reduceIte, true_or, or_true, nP1, oI_s, oI_n, bI_f, bI_t, i1_0, i0_0, Bool.false_eq_true, not_true_eq_false, not_false_eq_true, iscG G, checkPane_ev O _ G H R, checkHour_ev, checkWithin_ev, checkOwner_ev, checkSeer_ev O _ G H R, gG0 G, H.isc, Bool.false_eq_true, a2]
    rw [e, e_113_8]
    simp only [e_113_0, e_113_1, e_113_4, e_113_5, e_113_6, e_113_7, e_113_9, e_113_10, e_113_13, e_113_16, e_113_19, e_113_20, e_113_23, e_113_24, e_113_25, e_113_26, e_113_29, e_113_32, e_113_33, e_113_34, e_113_35, e_113_36, e_113_37, e_113_38, e_113_41, e_113_44, e_113_45, Option.bind_some, Option.bind_none, m_kt, m_kn, Option.toList_some, Option.toList_none, List.nil_append, List.cons_append, List.append_nil, ltn, ite_not, ↓reduceIte, true_or, or_true, nP1, oI_s, oI_n, bI_f, bI_t, i1_0, i0_0, Bool.false_eq_true, not_true_eq_false, not_false_eq_true, iscG G, checkPane_ev O _ G H R, checkHour_ev, checkWithin_ev, checkOwner_ev, checkSeer_ev O _ G H R, gG0 G, H.isc, Bool.false_eq_true, gC2 H, Int32.le_refl]
    rfl
def spS (W : WD) (hr : Int32) (p : Nat) : Int32 := bea W p - loadS W (nI p) hr
def wkF (W : WD) (hr : Int32) : Nat → Nat → Nat := fun i s => if spS W hr (i + 1) < spS W hr s then i + 1 else s
def weakV (W : WD) (hr : Int32) : Int32 := nI (lp (wkF W hr) (pN W - 1) 0)
theorem wk_lt {W : WD} (hr : Int32) {n : Nat} : lp (wkF W hr) n 0 ≤ n := by
  induction n with
  | zero => exact Nat.le_refl _
  | succ n ih =>
    rw [lp_s]
    unfold wkF at *
    split <;> omega
theorem Gweakest_ev (O : mO) (d : Nat) (C : CG h g W) (y : Int32) : GA (ev O (d + 2) 123 0 [.ref 0, .int y, mJ, mJ, mJ, mJ] [] h) h (if codeHr y = 1 then some 1 else none) (.int (weakV W y)) := by
  obtain ⟨G, H, ga, R, S⟩ := C
  have hN := pN_le R
  have hP := pN_pos R
  unfold codeHr
  cases a2 : inB y 0 23
  · simp only [Bool.false_eq_true, ↓reduceIte]
    show _ = _
    simp only [e_123_0, e_123_1, e_123_4, e_123_5, e_123_6, e_123_7, e_123_10, e_123_11, e_123_14, e_123_15, e_123_18, e_123_19, e_123_20, e_123_23, e_123_24, e_123_25, e_123_26, e_123_28, e_123_30, e_123_31, e_123_34, e_123_37, e_123_40, e_123_41, e_123_44, e_123_46, e_123_49, e_123_50, e_123_53, e_123_55, e_123_56, e_123_59, e_123_60, e_123_62, e_123_64, e_123_65, e_123_68, e_123_70, e_123_71, e_123_73, e_123_74, e_123_77, e_123_80, e_123_81, Option.bind_some, Option.bind_none, m_kt, m_kn, Option.toList_some, Option.toList_none, List.nil_append, List.cons_append, List.append_nil, ltn, ite_not, ↓reduceIte, true_or, or_true, nP1, oI_s, oI_n, bI_f, bI_t, i1_0, i0_0, Bool.false_eq_true, not_true_eq_false, not_false_eq_true, iscG G, checkPane_ev O _ G H R, checkHour_ev, checkWithin_ev, checkOwner_ev, checkSeer_ev O _ G H R, gG0 G, H.isc, Bool.false_eq_true, a2]
  · simp only [↓reduceIte, Nat.zero_ne_one]
    refine ⟨h, ?_, sc.rf h⟩
    have e := lp_runV (ν := Value) (F := fun i s v => ev O (d + 2) 123 28 [.ref 0, .int y, .int (nI s), .int (spS W y s), .int (nI (i + 1)), v] [] h) (f := wkF W y) (n := pN W - 1) (fun i s v hi => by
      have h1 : ¬ nI (pN W) ≤ nI (i + 1) := nI_ge (by omega) (by omega)
      have hsp : bea W (i + 1) - loadS W (nI (i + 1)) y = spS W y (i + 1) := rfl
      rw [e_123_28]
      unfold wkF
      by_cases hc : spS W y s ≤ spS W y (i + 1)
      · have hc' : ¬ spS W y (i + 1) < spS W y s := Int32.not_lt.mpr hc
        simp only [e_123_0, e_123_1, e_123_4, e_123_5, e_123_6, e_123_7, e_123_10, e_123_11, e_123_14, e_123_15, e_123_18, e_123_19, e_123_20, e_123_23, e_123_24, e_123_25, e_123_26, e_123_30, e_123_31, e_123_34, e_123_37, e_123_40, e_123_41, e_123_44, e_123_46, e_123_49, e_123_50, e_123_53, e_123_55, e_123_56, e_123_59, e_123_60, e_123_62, e_123_64, e_123_65, e_123_68, e_123_70, e_123_71, e_123_73, e_123_74, e_123_77, e_123_80, e_123_81, Option.bind_some, Option.bind_none, m_kt, m_kn, Option.toList_some, Option.toList_none, List.nil_append, List.cons_append, List.append_nil, ltn, ite_not, ↓reduceIte, true_or, or_true, nP1, oI_s, oI_n, bI_f, bI_t, i1_0, i0_0, Bool.false_eq_true, not_true_eq_false, not_false_eq_true, iscG G, checkPane_ev O _ G H R, checkHour_ev, checkWithin_ev, checkOwner_ev, checkSeer_ev O _ G H R, gG0 G, H.isc, Bool.false_eq_true, gC2 H, h1, bears_ev O d H R (show i + 1 < 30 by omega), loadOn_ev O d H R, hsp, hc]
        exact ⟨_, rfl⟩
      · have hc' : spS W y (i + 1) < spS W y s := Int32.not_le.mp hc
        simp only [e_123_0, e_123_1, e_123_4, e_123_5, e_123_6, e_123_7, e_123_10, e_123_11, e_123_14, e_123_15, e_123_18, e_123_19, e_123_20, e_123_23, e_123_24, e_123_25, e_123_26, e_123_30, e_123_31, e_123_34, e_123_37, e_123_40, e_123_41, e_123_44, e_123_46, e_123_49, e_123_50, e_123_53, e_123_55, e_123_56, e_123_59, e_123_60, e_123_62, e_123_64, e_123_65, e_123_68, e_123_70, e_123_71, e_123_73, e_123_74, e_123_77, e_123_80, e_123_81, Option.bind_some, Option.bind_none, m_kt, m_kn, Option.toList_some, Option.toList_none, List.nil_append, List.cons_append, List.append_nil, ltn, ite_not, ↓reduceIte, true_or, or_true, nP1, oI_s, oI_n, bI_f, bI_t, i1_0, i0_0, Bool.false_eq_true, not_true_eq_false, not_false_eq_true, iscG G, checkPane_ev O _ G H R, checkHour_ev, checkWithin_ev, checkOwner_ev, checkSeer_ev O _ G H R, gG0 G, H.isc, Bool.false_eq_true, gC2 H, h1, bears_ev O d H R (show i + 1 < 30 by omega), loadOn_ev O d H R, hsp, hc]
        exact ⟨_, rfl⟩) 0 mJ
    have b0 := bears_ev O d H R (p := 0) (by omega)
    rw [nI_0] at b0
    have s0 : bea W 0 - loadS W 0 y = spS W y 0 := rfl
    obtain ⟨v, e⟩ := e
    simp only [nI_0, Nat.zero_add, show nI 1 = 1 from rfl] at e
    simp only [e_123_0, e_123_1, e_123_4, e_123_5, e_123_6, e_123_7, e_123_10, e_123_11, e_123_14, e_123_15, e_123_18, e_123_19, e_123_20, e_123_23, e_123_24, e_123_25, e_123_26, e_123_30, e_123_31, e_123_34, e_123_37, e_123_40, e_123_41, e_123_44, e_123_46, e_123_49, e_123_50, e_123_53, e_123_55, e_123_56, e_123_59, e_123_60, e_123_62, e_123_64, e_123_65, e_123_68, e_123_70, e_123_71, e_123_73, e_123_74, e_123_77, e_123_80, e_123_81, Option.bind_some, Option.bind_none, m_kt, m_kn, Option.toList_some, Option.toList_none, List.nil_append, List.cons_append, List.append_nil, ltn, ite_not, ↓reduceIte, true_or, or_true, nP1, oI_s, oI_n, bI_f, bI_t, i1_0, i0_0, Bool.false_eq_true, not_true_eq_false, not_false_eq_true, iscG G, checkPane_ev O _ G H R, checkHour_ev, checkWithin_ev, checkOwner_ev, checkSeer_ev O _ G H R, gG0 G, H.isc, Bool.false_eq_true, a2, b0, loadOn_ev O d H R, s0]
    rw [e, Nat.sub_add_cancel hP, e_123_28]
    simp only [e_123_0, e_123_1, e_123_4, e_123_5, e_123_6, e_123_7, e_123_10, e_123_11, e_123_14, e_123_15, e_123_18, e_123_19, e_123_20, e_123_23, e_123_24, e_123_25, e_123_26, e_123_30, e_123_31, e_123_34, e_123_37, e_123_40, e_123_41, e_123_44, e_123_46, e_123_49, e_123_50, e_123_53, e_123_55, e_123_56, e_123_59, e_123_60, e_123_62, e_123_64, e_123_65, e_123_68, e_123_70, e_123_71, e_123_73, e_123_74, e_123_77, e_123_80, e_123_81, Option.bind_some, Option.bind_none, m_kt, m_kn, Option.toList_some, Option.toList_none, List.nil_append, List.cons_append, List.append_nil, ltn, ite_not, ↓reduceIte, true_or, or_true, nP1, oI_s, oI_n, bI_f, bI_t, i1_0, i0_0, Bool.false_eq_true, not_true_eq_false, not_false_eq_true, iscG G, checkPane_ev O _ G H R, checkHour_ev, checkWithin_ev, checkOwner_ev, checkSeer_ev O _ G H R, gG0 G, H.isc, Bool.false_eq_true, gC2 H, Int32.le_refl]
    rfl
def codeCa (W : WD) (x y : Int32) : Nat := if inB x 0 (nI (kN W) - 1) = true then (if inB y 0 4 = true then 0 else 2) else 1
def cartV (W : WD) (x y : Int32) : Int32 := W (187 + 5 * x.toNatClampNeg + y.toNatClampNeg)
theorem Gcart_ev (O : mO) (d : Nat) (C : CG h g W) (x y : Int32) : GA (ev O (d) 108 0 [.ref 0, .int x, .int y] [] h) h (if codeCa W x y = 1 then some 1 else if codeCa W x y = 2 then some 2 else none) (.int (cartV W x y)) := by
  obtain ⟨G, H, ga, R, S⟩ := C
  have hk := kN_le R
  have q5 : ((5 : Int32) ≤ y) = ¬ (y ≤ 4) := lt_pred (n := 5) (by decide)
  unfold codeCa
  cases a1 : inB x 0 (nI (kN W) - 1)
  · simp only [Bool.false_eq_true, ↓reduceIte]
    show _ = _
    have a1 := inB_f.mp a1
    by_cases c : 0 ≤ x
    · have c2 : ¬ x ≤ nI (kN W) - 1 := a1.resolve_left (fun q => q c)
      simp only [e_108_0, e_108_1, e_108_4, e_108_5, e_108_6, e_108_9, e_108_12, e_108_15, e_108_23, e_108_24, e_108_27, e_108_28, e_108_29, e_108_32, e_108_40, e_108_41, e_108_44, e_108_47, e_108_48, e_108_49, e_108_50, e_108_51, e_108_52, e_108_53, Option.bind_some, Option.bind_none, m_kt, m_kn, Option.toList_some, Option.toList_none, List.nil_append, List.cons_append, List.append_nil, ltn, ite_not, ↓reduceIte, true_or, or_true, nP1, oI_s, oI_n, bI_f, bI_t, i1_0, i0_0, Bool.false_eq_true, not_true_eq_false, not_false_eq_true, gG0 G, gC12 H, rW2 R, lt_pred (show kN W < 2 ^ 30 by omega), c, c2]
    · simp only [e_108_0, e_108_1, e_108_4, e_108_5, e_108_6, e_108_9, e_108_12, e_108_15, e_108_23, e_108_24, e_108_27, e_108_28, e_108_29, e_108_32, e_108_40, e_108_41, e_108_44, e_108_47, e_108_48, e_108_49, e_108_50, e_108_51, e_108_52, e_108_53, Option.bind_some, Option.bind_none, m_kt, m_kn, Option.toList_some, Option.toList_none, List.nil_append, List.cons_append, List.append_nil, ltn, ite_not, ↓reduceIte, true_or, or_true, nP1, oI_s, oI_n, bI_f, bI_t, i1_0, i0_0, Bool.false_eq_true, not_true_eq_false, not_false_eq_true, gG0 G, gC12 H, rW2 R, c]
  · have b1 := inB_t.mp a1
    obtain ⟨k, hk', rfl⟩ := inB_ix (by omega) a1
    cases a2 : inB y 0 4
    · simp only [Bool.false_eq_true, ↓reduceIte]
      show _ = _
      have a2 := inB_f.mp a2
      by_cases c : 0 ≤ y
      · have c2 : ¬ y ≤ 4 := a2.resolve_left (fun q => q c)
        simp only [e_108_0, e_108_1, e_108_4, e_108_5, e_108_6, e_108_9, e_108_12, e_108_15, e_108_23, e_108_24, e_108_27, e_108_28, e_108_29, e_108_32, e_108_40, e_108_41, e_108_44, e_108_47, e_108_48, e_108_49, e_108_50, e_108_51, e_108_52, e_108_53, Option.bind_some, Option.bind_none, m_kt, m_kn, Option.toList_some, Option.toList_none, List.nil_append, List.cons_append, List.append_nil, ltn, ite_not, ↓reduceIte, true_or, or_true, nP1, oI_s, oI_n, bI_f, bI_t, i1_0, i0_0, Bool.false_eq_true, not_true_eq_false, not_false_eq_true, gG0 G, gC12 H, rW2 R, lt_pred (show kN W < 2 ^ 30 by omega), b1.1, b1.2, q5, c, c2]
      · simp only [e_108_0, e_108_1, e_108_4, e_108_5, e_108_6, e_108_9, e_108_12, e_108_15, e_108_23, e_108_24, e_108_27, e_108_28, e_108_29, e_108_32, e_108_40, e_108_41, e_108_44, e_108_47, e_108_48, e_108_49, e_108_50, e_108_51, e_108_52, e_108_53, Option.bind_some, Option.bind_none, m_kt, m_kn, Option.toList_some, Option.toList_none, List.nil_append, List.cons_append, List.append_nil, ltn, ite_not, ↓reduceIte, true_or, or_true, nP1, oI_s, oI_n, bI_f, bI_t, i1_0, i0_0, Bool.false_eq_true, not_true_eq_false, not_false_eq_true, gG0 G, gC12 H, rW2 R, lt_pred (show kN W < 2 ^ 30 by omega), b1.1, b1.2, c]
    · have b2 := inB_t.mp a2
      obtain ⟨j, hj, rfl⟩ := inB_n (n := 4) (by omega) a2
      simp only [↓reduceIte]
      refine ⟨h, ?_, sc.rf h⟩
      unfold cartV
      rw [nI_clamp (show k < 2 ^ 31 by omega), nI_clamp (show j < 2 ^ 31 by omega)]
      simp only [e_108_0, e_108_1, e_108_4, e_108_5, e_108_6, e_108_9, e_108_12, e_108_15, e_108_23, e_108_24, e_108_27, e_108_28, e_108_29, e_108_32, e_108_40, e_108_41, e_108_44, e_108_47, e_108_48, e_108_49, e_108_50, e_108_51, e_108_52, e_108_53, Option.bind_some, Option.bind_none, m_kt, m_kn, Option.toList_some, Option.toList_none, List.nil_append, List.cons_append, List.append_nil, ltn, ite_not, ↓reduceIte, true_or, or_true, nP1, oI_s, oI_n, bI_f, bI_t, i1_0, i0_0, Bool.false_eq_true, not_true_eq_false, not_false_eq_true, gG0 G, gC12 H, gC13 H, rW2 R, lt_pred (show kN W < 2 ^ 30 by omega), b1.1, b1.2, q5, b2.1, b2.2, n5, nA, H.k R hk' (show j < 5 by omega)]
def codeLi (W : WD) (x y z : Int32) : Nat := if (nPa W x && inB y 0 23) = true then (if inB z 0 2 = true then 0 else 2) else 1
def lightV (W : WD) (x y z : Int32) : Int32 := if z = 0 then ldS W x.toNatClampNeg y else if z = 1 then sunS y - ldS W x.toNatClampNeg y else lgS W x.toNatClampNeg y
theorem Glight_ev (O : mO) (d : Nat) (C : CG h g W) (x y z : Int32) : GA (ev O (d + 3) 114 0 [.ref 0, .int x, .int y, .int z] [] h) h (if codeLi W x y z = 1 then some 1 else if codeLi W x y z = 2 then some 2 else none) (.int (lightV W x y z)) := by
  obtain ⟨G, H, ga, R, S⟩ := C
  have hN := pN_le R
  unfold codeLi nPa
  cases a1 : inB x 0 (nI (pN W) - 1)
  · simp only [Bool.false_and, Bool.false_eq_true, ↓reduceIte]
    show _ = _
    simp only [e_114_0, e_114_1, e_114_2, e_114_5, e_114_6, e_114_9, e_114_10, e_114_36, e_114_37, e_114_40, e_114_41, e_114_42, e_114_45, e_114_46, e_114_47, e_114_50, e_114_51, e_114_54, e_114_55, e_114_56, e_114_59, e_114_60, e_114_61, e_114_62, e_114_65, e_114_66, e_114_67, e_114_70, e_114_71, Option.bind_some, Option.bind_none, m_kt, m_kn, Option.toList_some, Option.toList_none, List.nil_append, List.cons_append, List.append_nil, ltn, ite_not, ↓reduceIte, true_or, or_true, nP1, oI_s, oI_n, bI_f, bI_t, i1_0, i0_0, Bool.false_eq_true, not_true_eq_false, not_false_eq_true, iscG G, checkPane_ev O _ G H R, checkHour_ev, checkWithin_ev, checkOwner_ev, checkSeer_ev O _ G H R, gG0 G, H.isc, Bool.false_eq_true, a1]
  · cases a2 : inB y 0 23
    · simp only [Bool.and_false, Bool.false_eq_true, ↓reduceIte]
      show _ = _
      simp only [e_114_0, e_114_1, e_114_2, e_114_5, e_114_6, e_114_9, e_114_10, e_114_36, e_114_37, e_114_40, e_114_41, e_114_42, e_114_45, e_114_46, e_114_47, e_114_50, e_114_51, e_114_54, e_114_55, e_114_56, e_114_59, e_114_60, e_114_61, e_114_62, e_114_65, e_114_66, e_114_67, e_114_70, e_114_71, Option.bind_some, Option.bind_none, m_kt, m_kn, Option.toList_some, Option.toList_none, List.nil_append, List.cons_append, List.append_nil, ltn, ite_not, ↓reduceIte, true_or, or_true, nP1, oI_s, oI_n, bI_f, bI_t, i1_0, i0_0, Bool.false_eq_true, not_true_eq_false, not_false_eq_true, iscG G, checkPane_ev O _ G H R, checkHour_ev, checkWithin_ev, checkOwner_ev, checkSeer_ev O _ G H R, gG0 G, H.isc, Bool.false_eq_true, a1, a2]
    · have b1 := a1
      obtain ⟨p, hp, rfl⟩ := inB_ix (by omega) a1
      have hp3 : p < 30 := by omega
      have b0 : ev O (d + 3) 114 0 [.ref 0, .int (nI p), .int y, .int z] [] h = ev O (d + 3) 114 10 [.ref 0, .int (nI p), .int y, .int z] [.int z] h := by
        simp only [e_114_0, e_114_1, e_114_2, e_114_5, e_114_6, e_114_9, e_114_36, e_114_37, e_114_40, e_114_41, e_114_42, e_114_45, e_114_46, e_114_47, e_114_50, e_114_51, e_114_54, e_114_55, e_114_56, e_114_59, e_114_60, e_114_61, e_114_62, e_114_65, e_114_66, e_114_67, e_114_70, e_114_71, Option.bind_some, Option.bind_none, m_kt, m_kn, Option.toList_some, Option.toList_none, List.nil_append, List.cons_append, List.append_nil, ltn, ite_not, ↓reduceIte, true_or, or_true, nP1, oI_s, oI_n, bI_f, bI_t, i1_0, i0_0, Bool.false_eq_true, not_true_eq_false, not_false_eq_true, iscG G, checkPane_ev O _ G H R, checkHour_ev, checkWithin_ev, checkOwner_ev, checkSeer_ev O _ G H R, gG0 G, H.isc, Bool.false_eq_true, b1, a2]
      rw [b0]
      cases a3 : inB z 0 2
      · simp only [Bool.and_true, Bool.false_eq_true, ↓reduceIte]
        show _ = _
        rw [e_114_10, tb_out (n := 3) (by decide) rfl a3 (fun q => ev O (d + 3) 114 q [.ref 0, .int (nI p), .int y, .int z] [] h)]
        simp only [e_114_0, e_114_1, e_114_2, e_114_5, e_114_6, e_114_9, e_114_36, e_114_37, e_114_40, e_114_41, e_114_42, e_114_45, e_114_46, e_114_47, e_114_50, e_114_51, e_114_54, e_114_55, e_114_56, e_114_59, e_114_60, e_114_61, e_114_62, e_114_65, e_114_66, e_114_67, e_114_70, e_114_71, Option.bind_some, Option.bind_none, m_kt, m_kn, Option.toList_some, Option.toList_none, List.nil_append, List.cons_append, List.append_nil, ltn, ite_not, ↓reduceIte, true_or, or_true, nP1, oI_s, oI_n, bI_f, bI_t, i1_0, i0_0, Bool.false_eq_true, not_true_eq_false, not_false_eq_true]
      · simp only [Bool.and_true, ↓reduceIte]
        refine ⟨h, ?_, sc.rf h⟩
        obtain ⟨k, hk, rfl⟩ := inB_n (n := 2) (by omega) a3
        unfold lightV
        rw [nI_clamp (show p < 2 ^ 31 by omega)]
        have hk' : k = 0 ∨ k = 1 ∨ k = 2 := by omega
        rcases hk' with rfl | rfl | rfl
        all_goals
          simp only [e_114_0, e_114_1, e_114_2, e_114_5, e_114_6, e_114_9, e_114_10, e_114_36, e_114_37, e_114_40, e_114_41, e_114_42, e_114_45, e_114_46, e_114_47, e_114_50, e_114_51, e_114_54, e_114_55, e_114_56, e_114_59, e_114_60, e_114_61, e_114_62, e_114_65, e_114_66, e_114_67, e_114_70, e_114_71, Option.bind_some, Option.bind_none, m_kt, m_kn, Option.toList_some, Option.toList_none, List.nil_append, List.cons_append, List.append_nil, ltn, ite_not, ↓reduceIte, true_or, or_true, nP1, oI_s, oI_n, bI_f, bI_t, i1_0, i0_0, Bool.false_eq_true, not_true_eq_false, not_false_eq_true, tl_0, tn_0, tl_1, tn_1, tl_2, tn_2, tl_3, tn_3, tl_4, tn_4, tl_5, tn_5, tl_6, tn_6, tl_7, tn_7, tl_8, tn_8, tl_9, tn_9, tl_10, tn_10, (show List.getD [36, 46, 61] 0 71 = 36 from rfl), (show List.getD [36, 46, 61] 1 71 = 46 from rfl), (show List.getD [36, 46, 61] 2 71 = 61 from rfl), gG0 G, H.isc, letDown_ev O (d + 1) H hp3, lightBelow_ev O d H hp3, sun_ev, nq0_0, nq1_0, nq1_1, nq2_0, nq2_1]
def codeBi (x y z : Int32) : Nat := if (inB x 0 7 && inB y 0 23) = true then (if inB z 0 999 = true then 0 else 2) else 1
def billV (W : WD) (x y z : Int32) : Int32 := lp (fun p s => if W (7 + 6 * p + 4) = x then s + ldS W p y else s) (pN W) 0 * z / 10
theorem Gbill_ev (O : mO) (d : Nat) (C : CG h g W) (x y z : Int32) : GA (ev O (d + 2) 115 0 [.ref 0, .int x, .int y, .int z, mJ, mJ] [] h) h (if codeBi x y z = 1 then some 1 else if codeBi x y z = 2 then some 0 else none) (.int (billV W x y z)) := by
  obtain ⟨G, H, ga, R, S⟩ := C
  have hN := pN_le R
  unfold codeBi
  cases a1 : inB x 0 7
  · simp only [Bool.false_and, Bool.false_eq_true, ↓reduceIte]
    show _ = _
    simp only [e_115_0, e_115_1, e_115_4, e_115_5, e_115_8, e_115_9, e_115_10, e_115_13, e_115_16, e_115_17, e_115_19, e_115_20, e_115_22, e_115_24, e_115_25, e_115_28, e_115_31, e_115_34, e_115_35, e_115_38, e_115_41, e_115_43, e_115_44, e_115_45, e_115_48, e_115_50, e_115_51, e_115_54, e_115_56, e_115_57, e_115_60, e_115_61, e_115_63, e_115_66, e_115_69, e_115_71, e_115_72, e_115_73, e_115_75, e_115_76, Option.bind_some, Option.bind_none, m_kt, m_kn, Option.toList_some, Option.toList_none, List.nil_append, List.cons_append, List.append_nil, ltn, ite_not, ↓reduceIte, true_or, or_true, nP1, oI_s, oI_n, bI_f, bI_t, i1_0, i0_0, Bool.false_eq_true, not_true_eq_false, not_false_eq_true, iscG G, checkPane_ev O _ G H R, checkHour_ev, checkWithin_ev, checkOwner_ev, checkSeer_ev O _ G H R, gG0 G, H.isc, Bool.false_eq_true, a1]
  · cases a2 : inB y 0 23
    · simp only [Bool.and_false, Bool.false_eq_true, ↓reduceIte]
      show _ = _
      simp only [e_115_0, e_115_1, e_115_4, e_115_5, e_115_8, e_115_9, e_115_10, e_115_13, e_115_16, e_115_17, e_115_19, e_115_20, e_115_22, e_115_24, e_115_25, e_115_28, e_115_31, e_115_34, e_115_35, e_115_38, e_115_41, e_115_43, e_115_44, e_115_45, e_115_48, e_115_50, e_115_51, e_115_54, e_115_56, e_115_57, e_115_60, e_115_61, e_115_63, e_115_66, e_115_69, e_115_71, e_115_72, e_115_73, e_115_75, e_115_76, Option.bind_some, Option.bind_none, m_kt, m_kn, Option.toList_some, Option.toList_none, List.nil_append, List.cons_append, List.append_nil, ltn, ite_not, ↓reduceIte, true_or, or_true, nP1, oI_s, oI_n, bI_f, bI_t, i1_0, i0_0, Bool.false_eq_true, not_true_eq_false, not_false_eq_true, iscG G, checkPane_ev O _ G H R, checkHour_ev, checkWithin_ev, checkOwner_ev, checkSeer_ev O _ G H R, gG0 G, H.isc, Bool.false_eq_true, a1, a2]
    · cases a3 : inB z 0 999
      · simp only [Bool.and_true, Bool.false_eq_true, ↓reduceIte]
        show _ = _
        simp only [e_115_0, e_115_1, e_115_4, e_115_5, e_115_8, e_115_9, e_115_10, e_115_13, e_115_16, e_115_17, e_115_19, e_115_20, e_115_22, e_115_24, e_115_25, e_115_28, e_115_31, e_115_34, e_115_35, e_115_38, e_115_41, e_115_43, e_115_44, e_115_45, e_115_48, e_115_50, e_115_51, e_115_54, e_115_56, e_115_57, e_115_60, e_115_61, e_115_63, e_115_66, e_115_69, e_115_71, e_115_72, e_115_73, e_115_75, e_115_76, Option.bind_some, Option.bind_none, m_kt, m_kn, Option.toList_some, Option.toList_none, List.nil_append, List.cons_append, List.append_nil, ltn, ite_not, ↓reduceIte, true_or, or_true, nP1, oI_s, oI_n, bI_f, bI_t, i1_0, i0_0, Bool.false_eq_true, not_true_eq_false, not_false_eq_true, iscG G, checkPane_ev O _ G H R, checkHour_ev, checkWithin_ev, checkOwner_ev, checkSeer_ev O _ G H R, gG0 G, H.isc, Bool.false_eq_true, a1, a2, a3]
      · simp only [Bool.and_true, ↓reduceIte]
        refine ⟨h, ?_, sc.rf h⟩
        have e := lp_run (F := fun i s => ev O (d + 2) 115 22 [.ref 0, .int x, .int y, .int z, .int s, .int (nI i)] [] h) (f := fun p s => if W (7 + 6 * p + 4) = x then s + ldS W p y else s) (n := pN W) (fun i s hi => by
          have h1 : ¬ nI (pN W) ≤ nI i := nI_ge hi (by omega)
          rw [e_115_22]
          by_cases hc : W (7 + 6 * i + 4) = x <;> simp only [e_115_0, e_115_1, e_115_4, e_115_5, e_115_8, e_115_9, e_115_10, e_115_13, e_115_16, e_115_17, e_115_19, e_115_20, e_115_24, e_115_25, e_115_28, e_115_31, e_115_34, e_115_35, e_115_38, e_115_41, e_115_43, e_115_44, e_115_45, e_115_48, e_115_50, e_115_51, e_115_54, e_115_56, e_115_57, e_115_60, e_115_61, e_115_63, e_115_66, e_115_69, e_115_71, e_115_72, e_115_73, e_115_75, e_115_76, Option.bind_some, Option.bind_none, m_kt, m_kn, Option.toList_some, Option.toList_none, List.nil_append, List.cons_append, List.append_nil, ltn, ite_not, ↓reduceIte, true_or, or_true, nP1, oI_s, oI_n, bI_f, bI_t, i1_0, i0_0, Bool.false_eq_true, not_true_eq_false, not_false_eq_true, iscG G, checkPane_ev O _ G H R, checkHour_ev, checkWithin_ev, checkOwner_ev, checkSeer_ev O _ G H R, gG0 G, H.isc, Bool.false_eq_true, gC2 H, gC10 H, H.t4 (show i < 30 by omega), h1, letDown_ev O d H (show i < 30 by omega), hc]) 0
        simp only [nI_0] at e
        simp only [e_115_0, e_115_1, e_115_4, e_115_5, e_115_8, e_115_9, e_115_10, e_115_13, e_115_16, e_115_17, e_115_19, e_115_20, e_115_24, e_115_25, e_115_28, e_115_31, e_115_34, e_115_35, e_115_38, e_115_41, e_115_43, e_115_44, e_115_45, e_115_48, e_115_50, e_115_51, e_115_54, e_115_56, e_115_57, e_115_60, e_115_61, e_115_63, e_115_66, e_115_69, e_115_71, e_115_72, e_115_73, e_115_75, e_115_76, Option.bind_some, Option.bind_none, m_kt, m_kn, Option.toList_some, Option.toList_none, List.nil_append, List.cons_append, List.append_nil, ltn, ite_not, ↓reduceIte, true_or, or_true, nP1, oI_s, oI_n, bI_f, bI_t, i1_0, i0_0, Bool.false_eq_true, not_true_eq_false, not_false_eq_true, iscG G, checkPane_ev O _ G H R, checkHour_ev, checkWithin_ev, checkOwner_ev, checkSeer_ev O _ G H R, gG0 G, H.isc, Bool.false_eq_true, a1, a2, a3]
        rw [e, e_115_22]
        simp only [e_115_0, e_115_1, e_115_4, e_115_5, e_115_8, e_115_9, e_115_10, e_115_13, e_115_16, e_115_17, e_115_19, e_115_20, e_115_24, e_115_25, e_115_28, e_115_31, e_115_34, e_115_35, e_115_38, e_115_41, e_115_43, e_115_44, e_115_45, e_115_48, e_115_50, e_115_51, e_115_54, e_115_56, e_115_57, e_115_60, e_115_61, e_115_63, e_115_66, e_115_69, e_115_71, e_115_72, e_115_73, e_115_75, e_115_76, Option.bind_some, Option.bind_none, m_kt, m_kn, Option.toList_some, Option.toList_none, List.nil_append, List.cons_append, List.append_nil, ltn, ite_not, ↓reduceIte, true_or, or_true, nP1, oI_s, oI_n, bI_f, bI_t, i1_0, i0_0, Bool.false_eq_true, not_true_eq_false, not_false_eq_true, iscG G, checkPane_ev O _ G H R, checkHour_ev, checkWithin_ev, checkOwner_ev, checkSeer_ev O _ G H R, gG0 G, H.isc, Bool.false_eq_true, gC2 H, Int32.le_refl, z10]
        rfl
def codeWo (W : WD) (x y : Int32) : Nat := if nPa W x = true then (if inB y 1 999 = true then 0 else 2) else 1
def woulV (W : WD) (x y : Int32) : Int32 := (stS W x.toNatClampNeg y.toNatClampNeg).1
theorem inB1_999 {y : Int32} (h : inB y 1 999 = true) : ∃ f, 1 ≤ f ∧ f ≤ 999 ∧ y = nI f := by
  have b := inB_bd h
  obtain ⟨c, e⟩ := bd_nI b (by decide)
  unfold bd at b
  rw [show (1 : Int32).toInt = 1 from by decide, show (999 : Int32).toInt = 999 from by decide] at b
  exact ⟨_, by omega, by omega, c⟩
theorem Gwould_ev (O : mO) (d : Nat) (C : CG h g W) (x y : Int32) : GA (ev O (d + 3) 127 0 [.ref 0, .int x, .int y] [] h) h (if codeWo W x y = 1 then some 1 else if codeWo W x y = 2 then some 0 else none) (.int (woulV W x y)) := by
  obtain ⟨G, H, ga, R, S⟩ := C
  have hN := pN_le R
  unfold codeWo nPa
  cases a1 : inB x 0 (nI (pN W) - 1)
  · simp only [Bool.false_eq_true, ↓reduceIte]
    show _ = _
    simp only [e_127_0, e_127_1, e_127_2, e_127_5, e_127_6, e_127_7, e_127_10, e_127_13, e_127_14, e_127_17, e_127_18, e_127_21, e_127_22, e_127_23, e_127_26, Option.bind_some, Option.bind_none, m_kt, m_kn, Option.toList_some, Option.toList_none, List.nil_append, List.cons_append, List.append_nil, ltn, ite_not, ↓reduceIte, true_or, or_true, nP1, oI_s, oI_n, bI_f, bI_t, i1_0, i0_0, Bool.false_eq_true, not_true_eq_false, not_false_eq_true, iscG G, checkPane_ev O _ G H R, checkHour_ev, checkWithin_ev, checkOwner_ev, checkSeer_ev O _ G H R, gG0 G, H.isc, Bool.false_eq_true, a1]
  · cases a2 : inB y 1 999
    · simp only [Bool.false_eq_true, ↓reduceIte]
      show _ = _
      simp only [e_127_0, e_127_1, e_127_2, e_127_5, e_127_6, e_127_7, e_127_10, e_127_13, e_127_14, e_127_17, e_127_18, e_127_21, e_127_22, e_127_23, e_127_26, Option.bind_some, Option.bind_none, m_kt, m_kn, Option.toList_some, Option.toList_none, List.nil_append, List.cons_append, List.append_nil, ltn, ite_not, ↓reduceIte, true_or, or_true, nP1, oI_s, oI_n, bI_f, bI_t, i1_0, i0_0, Bool.false_eq_true, not_true_eq_false, not_false_eq_true, iscG G, checkPane_ev O _ G H R, checkHour_ev, checkWithin_ev, checkOwner_ev, checkSeer_ev O _ G H R, gG0 G, H.isc, Bool.false_eq_true, a1, a2]
    · have b1 := a1
      have b2 := a2
      obtain ⟨p, hp, rfl⟩ := inB_ix (by omega) a1
      obtain ⟨f, f1, f2, rfl⟩ := inB1_999 a2
      simp only [↓reduceIte]
      refine ⟨_, ?_, sc_hk (stS W p f).2⟩
      unfold woulV
      rw [nI_clamp (show p < 2 ^ 31 by omega), nI_clamp (show f < 2 ^ 31 by omega)]
      simp only [e_127_0, e_127_1, e_127_2, e_127_5, e_127_6, e_127_7, e_127_10, e_127_13, e_127_14, e_127_17, e_127_18, e_127_21, e_127_22, e_127_23, e_127_26, Option.bind_some, Option.bind_none, m_kt, m_kn, Option.toList_some, Option.toList_none, List.nil_append, List.cons_append, List.append_nil, ltn, ite_not, ↓reduceIte, true_or, or_true, nP1, oI_s, oI_n, bI_f, bI_t, i1_0, i0_0, Bool.false_eq_true, not_true_eq_false, not_false_eq_true, iscG G, checkPane_ev O _ G H R, checkHour_ev, checkWithin_ev, checkOwner_ev, checkSeer_ev O _ G H R, gG0 G, H.isc, Bool.false_eq_true, b1, b2, gG8 G, K_isc S.2.1, strike_ev O d H (by omega) S.2.1 R hp (show f < 2 ^ 20 by omega)]
end EasyG
