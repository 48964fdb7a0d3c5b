/-! New lamps: both searches -/
def lm2C (W : WD) (set : Int32) (h i b : Nat) : Bool := litB W set h (L2 (i + 1) b) 2
def lm2I (W : WD) (set : Int32) (h i : Nat) : Option Nat := fd (lm2C W set h i) (i + 1)
def lm3C (W : WD) (set : Int32) (h i j c : Nat) : Bool := litB W set h (L3 (i + 2) (j + 1) c) 3
def lm3J (W : WD) (set : Int32) (h i j : Nat) : Option Nat := fd (lm3C W set h i j) (j + 1)
def lm3I (W : WD) (set : Int32) (h i : Nat) : Option Nat := fd (fun j => (lm3J W set h i j).isSome) (i + 1)
def lm3S (W : WD) (set : Int32) (h i : Nat) : Int32 := (lm3I W set h i).elim (-1) (fun j => (shl1 (i + 2) ||| shl1 (j + 1)) ||| shl1 ((lm3J W set h i j).getD 0))
def lm3V (W : WD) (set : Int32) (h : Nat) : Int32 := (fd (fun i => (lm3I W set h i).isSome) (pN W - 2)).elim (-1) (lm3S W set h)
def lm2V (W : WD) (set : Int32) (h : Nat) : Int32 := (fd (fun i => (lm2I W set h i).isSome) (pN W - 1)).elim (lm3V W set h) (fun i => shl1 (i + 1) ||| shl1 ((lm2I W set h i).getD 0))
def lm1V (W : WD) (set : Int32) (h : Nat) : Int32 := (fd (fun a => litB W set h (L1 a) 1) (pN W)).elim (lm2V W set h) shl1
def lmpV (W : WD) (set : Int32) (h : Nat) : Int32 := if litB W set h (L1 0) 0 = true then 0 else lm1V W set h
theorem neg_m1 {x : Int32} {n : Nat} (hn : n < 31) (h : sub 31 x) : (x = -1) = False := by
  apply propext
  constructor
  · intro q
    have := h 31 (by omega) (by omega)
    rw [q] at this
    exact absurd this (by decide)
  · exact False.elim
section LampC
variable {h : mH} {a : Nat} {W : WD}
theorem isEnough_ev (O : mO) (d : Nat) (h : mH) (x y z u v : Int32) : ev O (d) 42 0 [.int x, .int y, .int z, .int u, .int v] [] h = some (.inl (some (.int (bI (enB x y z u v)))), h) := by
  unfold enB
  by_cases c : ((u &&& (x ^^^ (-1))) &&& (y ^^^ (-1))) ||| ((v &&& (x ^^^ (-1))) &&& (z ^^^ (-1))) = 0 <;> simp only [e_42_0, e_42_1, e_42_2, e_42_3, e_42_4, e_42_5, e_42_6, e_42_7, e_42_8, e_42_9, e_42_11, e_42_12, e_42_13, e_42_14, e_42_15, e_42_16, e_42_17, e_42_18, e_42_19, e_42_20, e_42_23, e_42_24, e_42_27, e_42_28, Option.bind_some, Option.bind_none, m_kt, m_kn, Option.toList_some, Option.toList_none, List.nil_append, List.cons_append, List.append_nil, ltn, ite_not, ↓reduceIte, true_or, or_true, nP1, oI_s, oI_n, bI_f, bI_t, i1_0, i0_0, Bool.false_eq_true, not_true_eq_false, not_false_eq_true, c, z01, o01, decide_true, decide_false]
theorem threeUpTo_ev (O : mO) (d : Nat) (H : CA h a W) (R : rng W) (set : Int32) (hr : Nat) {i : Nat} (hi : i + 2 < pN W) : ev O (d + 1) 41 0 [.ref a, .int (nI (i + 2)), .int (dmS W set hr), .int (dkS W set hr), mJ, mJ, mJ, mJ, mJ, mJ] [] h = some (.inl (some (.int (lm3S W set hr i))), h) := by
  have hN := pN_le R
  have hb : ∀ l, abS (wN W) (gN W) (shl1 l) = bsd W l := fun _ => rfl
  have e := fd_runV (ν := Value × Value × Value × Value) (c := fun j => (lm3J W set hr i j).isSome) (n := i + 1) (F := fun j v => ev O (d + 1) 41 12 [.ref a, .int (nI (i + 2)), .int (dmS W set hr), .int (dkS W set hr), .int (bsd W (i + 2)), .int (nI (j + 1)), v.1, v.2.1, v.2.2.1, v.2.2.2] [] h) (r := fun j => some (.inl (some (.int ((shl1 (i + 2) ||| shl1 (j + 1)) ||| shl1 ((lm3J W set hr i j).getD 0)))), h)) (fun j v hj => by
    have h1 : ¬ nI (i + 2) ≤ nI (j + 1) := nI_ge (by omega) (by omega)
    have e2 := fd_runV (ν := Value × Value) (c := lm3C W set hr i j) (n := j + 1) (F := fun c v => ev O (d + 1) 41 31 [.ref a, .int (nI (i + 2)), .int (dmS W set hr), .int (dkS W set hr), .int (bsd W (i + 2)), .int (nI (j + 1)), .int (bsd W (j + 1)), .int (nI c), v.1, v.2] [] h) (r := fun c => some (.inl (some (.int ((shl1 (i + 2) ||| shl1 (j + 1)) ||| shl1 c))), h)) (fun c v hc => by
      have h2 : ¬ nI (j + 1) ≤ nI c := nI_ge hc (by omega)
      have en := en3 (set := set) (h := hr) R hi (show j + 1 < i + 2 by omega) hc
      rw [e_41_31]
      refine ⟨fun q => ?_, fun q => ?_⟩
      · have q : litB W set hr (L3 (i + 2) (j + 1) c) 3 = true := q
        simp only [e_41_0, e_41_1, e_41_2, e_41_3, e_41_4, e_41_7, e_41_9, e_41_10, e_41_12, e_41_14, e_41_15, e_41_18, e_41_19, e_41_20, e_41_22, e_41_23, e_41_26, e_41_28, e_41_29, e_41_33, e_41_35, e_41_38, e_41_39, e_41_40, e_41_42, e_41_43, e_41_46, e_41_48, e_41_49, e_41_50, e_41_51, e_41_52, e_41_54, e_41_55, e_41_56, e_41_57, e_41_59, e_41_60, e_41_61, e_41_63, e_41_65, e_41_67, e_41_69, e_41_70, e_41_72, e_41_73, e_41_75, e_41_77, e_41_78, e_41_80, e_41_82, e_41_83, e_41_84, e_41_86, e_41_88, e_41_89, e_41_90, e_41_91, e_41_92, e_41_95, e_41_98, e_41_100, e_41_101, e_41_104, e_41_107, e_41_110, e_41_113, e_41_114, Option.bind_some, Option.bind_none, m_kt, m_kn, Option.toList_some, Option.toList_none, List.nil_append, List.cons_append, List.append_nil, ltn, ite_not, ↓reduceIte, true_or, or_true, nP1, oI_s, oI_n, bI_f, bI_t, i1_0, i0_0, Bool.false_eq_true, not_true_eq_false, not_false_eq_true, h2, H.isc, allBeside_ev O d H, shl_nI, hb, isEnough_ev, en, q]
      · have q : litB W set hr (L3 (i + 2) (j + 1) c) 3 = false := q
        simp only [e_41_0, e_41_1, e_41_2, e_41_3, e_41_4, e_41_7, e_41_9, e_41_10, e_41_12, e_41_14, e_41_15, e_41_18, e_41_19, e_41_20, e_41_22, e_41_23, e_41_26, e_41_28, e_41_29, e_41_33, e_41_35, e_41_38, e_41_39, e_41_40, e_41_42, e_41_43, e_41_46, e_41_48, e_41_49, e_41_50, e_41_51, e_41_52, e_41_54, e_41_55, e_41_56, e_41_57, e_41_59, e_41_60, e_41_61, e_41_63, e_41_65, e_41_67, e_41_69, e_41_70, e_41_72, e_41_73, e_41_75, e_41_77, e_41_78, e_41_80, e_41_82, e_41_83, e_41_84, e_41_86, e_41_88, e_41_89, e_41_90, e_41_91, e_41_92, e_41_95, e_41_98, e_41_100, e_41_101, e_41_104, e_41_107, e_41_110, e_41_113, e_41_114, Option.bind_some, Option.bind_none, m_kt, m_kn, Option.toList_some, Option.toList_none, List.nil_append, List.cons_append, List.append_nil, ltn, ite_not, ↓reduceIte, true_or, or_true, nP1, oI_s, oI_n, bI_f, bI_t, i1_0, i0_0, Bool.false_eq_true, not_true_eq_false, not_false_eq_true, h2, H.isc, allBeside_ev O d H, shl_nI, hb, isEnough_ev, en, q]
        exact ⟨(_, _), rfl⟩) (v.2.2.1, v.2.2.2)
    rw [e_41_12]
    simp only [nI_0] at e2
    simp only [e_41_0, e_41_1, e_41_2, e_41_3, e_41_4, e_41_7, e_41_9, e_41_10, e_41_14, e_41_15, e_41_18, e_41_19, e_41_20, e_41_22, e_41_23, e_41_26, e_41_28, e_41_29, e_41_33, e_41_35, e_41_38, e_41_39, e_41_40, e_41_42, e_41_43, e_41_46, e_41_48, e_41_49, e_41_50, e_41_51, e_41_52, e_41_54, e_41_55, e_41_56, e_41_57, e_41_59, e_41_60, e_41_61, e_41_63, e_41_65, e_41_67, e_41_69, e_41_70, e_41_72, e_41_73, e_41_75, e_41_77, e_41_78, e_41_80, e_41_82, e_41_83, e_41_84, e_41_86, e_41_88, e_41_89, e_41_90, e_41_91, e_41_92, e_41_95, e_41_98, e_41_100, e_41_101, e_41_104, e_41_107, e_41_110, e_41_113, e_41_114, Option.bind_some, Option.bind_none, m_kt, m_kn, Option.toList_some, Option.toList_none, List.nil_append, List.cons_append, List.append_nil, ltn, ite_not, ↓reduceIte, true_or, or_true, nP1, oI_s, oI_n, bI_f, bI_t, i1_0, i0_0, Bool.false_eq_true, not_true_eq_false, not_false_eq_true, h1, H.isc, allBeside_ev O d H, shl_nI, hb]
    rcases e2 with ⟨c, ec, e2⟩ | ⟨en, v2, e2⟩
    · have ec : lm3J W set hr i j = some c := ec
      refine ⟨fun _ => ?_, fun q => (by rw [ec] at q; cases q)⟩
      rw [ec]; exact e2
    · have en : lm3J W set hr i j = none := en
      refine ⟨fun q => (by rw [en] at q; cases q), fun _ => ⟨(.int (bsd W (j + 1)), .int (nI (j + 1)), v2.1, v2.2), e2.trans ?_⟩⟩
      rw [e_41_31]
      simp only [e_41_0, e_41_1, e_41_2, e_41_3, e_41_4, e_41_7, e_41_9, e_41_10, e_41_14, e_41_15, e_41_18, e_41_19, e_41_20, e_41_22, e_41_23, e_41_26, e_41_28, e_41_29, e_41_33, e_41_35, e_41_38, e_41_39, e_41_40, e_41_42, e_41_43, e_41_46, e_41_48, e_41_49, e_41_50, e_41_51, e_41_52, e_41_54, e_41_55, e_41_56, e_41_57, e_41_59, e_41_60, e_41_61, e_41_63, e_41_65, e_41_67, e_41_69, e_41_70, e_41_72, e_41_73, e_41_75, e_41_77, e_41_78, e_41_80, e_41_82, e_41_83, e_41_84, e_41_86, e_41_88, e_41_89, e_41_90, e_41_91, e_41_92, e_41_95, e_41_98, e_41_100, e_41_101, e_41_104, e_41_107, e_41_110, e_41_113, e_41_114, Option.bind_some, Option.bind_none, m_kt, m_kn, Option.toList_some, Option.toList_none, List.nil_append, List.cons_append, List.append_nil, ltn, ite_not, ↓reduceIte, true_or, or_true, nP1, oI_s, oI_n, bI_f, bI_t, i1_0, i0_0, Bool.false_eq_true, not_true_eq_false, not_false_eq_true, Int32.le_refl]) (mJ, mJ, mJ, mJ)
  simp only [Nat.zero_add, show nI 1 = 1 from rfl] at e
  simp only [e_41_0, e_41_1, e_41_2, e_41_3, e_41_4, e_41_7, e_41_9, e_41_10, e_41_14, e_41_15, e_41_18, e_41_19, e_41_20, e_41_22, e_41_23, e_41_26, e_41_28, e_41_29, e_41_33, e_41_35, e_41_38, e_41_39, e_41_40, e_41_42, e_41_43, e_41_46, e_41_48, e_41_49, e_41_50, e_41_51, e_41_52, e_41_54, e_41_55, e_41_56, e_41_57, e_41_59, e_41_60, e_41_61, e_41_63, e_41_65, e_41_67, e_41_69, e_41_70, e_41_72, e_41_73, e_41_75, e_41_77, e_41_78, e_41_80, e_41_82, e_41_83, e_41_84, e_41_86, e_41_88, e_41_89, e_41_90, e_41_91, e_41_92, e_41_95, e_41_98, e_41_100, e_41_101, e_41_104, e_41_107, e_41_110, e_41_113, e_41_114, Option.bind_some, Option.bind_none, m_kt, m_kn, Option.toList_some, Option.toList_none, List.nil_append, List.cons_append, List.append_nil, ltn, ite_not, ↓reduceIte, true_or, or_true, nP1, oI_s, oI_n, bI_f, bI_t, i1_0, i0_0, Bool.false_eq_true, not_true_eq_false, not_false_eq_true, H.isc, allBeside_ev O d H, shl_nI, hb]
  unfold lm3S
  have ef : lm3I W set hr i = fd (fun j => (lm3J W set hr i j).isSome) (i + 1) := rfl
  rcases e with ⟨j, ej, e⟩ | ⟨en, v, e⟩
  · rw [ef, ej]; exact e
  · rw [ef, en]
    refine e.trans ?_
    rw [e_41_12]
    simp only [e_41_0, e_41_1, e_41_2, e_41_3, e_41_4, e_41_7, e_41_9, e_41_10, e_41_14, e_41_15, e_41_18, e_41_19, e_41_20, e_41_22, e_41_23, e_41_26, e_41_28, e_41_29, e_41_33, e_41_35, e_41_38, e_41_39, e_41_40, e_41_42, e_41_43, e_41_46, e_41_48, e_41_49, e_41_50, e_41_51, e_41_52, e_41_54, e_41_55, e_41_56, e_41_57, e_41_59, e_41_60, e_41_61, e_41_63, e_41_65, e_41_67, e_41_69, e_41_70, e_41_72, e_41_73, e_41_75, e_41_77, e_41_78, e_41_80, e_41_82, e_41_83, e_41_84, e_41_86, e_41_88, e_41_89, e_41_90, e_41_91, e_41_92, e_41_95, e_41_98, e_41_100, e_41_101, e_41_104, e_41_107, e_41_110, e_41_113, e_41_114, Option.bind_some, Option.bind_none, m_kt, m_kn, Option.toList_some, Option.toList_none, List.nil_append, List.cons_append, List.append_nil, ltn, ite_not, ↓reduceIte, true_or, or_true, nP1, oI_s, oI_n, bI_f, bI_t, i1_0, i0_0, Bool.false_eq_true, not_true_eq_false, not_false_eq_true, Int32.le_refl, Option.elim_none]
theorem lm3S_ne {set : Int32} {hr i : Nat} (R : rng W) (hi : i + 2 < pN W) : (lm3S W set hr i = -1) = ((lm3I W set hr i).isSome = false) := by
  have hN := pN_le R
  unfold lm3S
  cases e : lm3I W set hr i with
  | none => simp
  | some j =>
    obtain ⟨j1, j2, -⟩ := fd_some e
    simp only [Option.elim_some]
    cases e2 : lm3J W set hr i j with
    | none => rw [e2] at j2; cases j2
    | some c =>
      obtain ⟨c1, -, -⟩ := fd_some e2
      rw [neg_m1 (n := 30) (by omega) (sub_or (sub_or (sub_shl (by omega) (by omega)) (sub_shl (by omega) (by omega))) (sub_shl (by simp only [Option.getD_some]; omega) (by omega)))]
      simp
theorem fewestFor_ev (O : mO) (d : Nat) (H : CA h a W) (R : rng W) (set : Int32) (hr : Nat) : ev O (d + 2) 40 0 [.ref a, .int (dmS W set hr), .int (dkS W set hr), mJ, mJ, mJ, mJ] [] h = some (.inl (some (.int (lm1V W set hr))), h) := by
  have hN := pN_le R
  have hP := pN_pos R
  have hb : ∀ l, abS (wN W) (gN W) (shl1 l) = bsd W l := fun _ => rfl
  -- three
  have e3 : ∀ v w5 w6 : Value, ev O (d + 2) 40 130 [.ref a, .int (dmS W set hr), .int (dkS W set hr), .int 2, v, w5, w6] [] h = some (.inl (some (.int (lm3V W set hr))), h) := by
    intro v w5 w6
    have e := fd_runV (ν := Value) (c := fun i => (lm3I W set hr i).isSome) (n := pN W - 2) (F := fun i v => ev O (d + 2) 40 130 [.ref a, .int (dmS W set hr), .int (dkS W set hr), .int (nI (i + 2)), v, w5, w6] [] h) (r := fun i => some (.inl (some (.int (lm3S W set hr i))), h)) (fun i v hi => by
      have h1 : ¬ nI (pN W) ≤ nI (i + 2) := nI_ge (by omega) (by omega)
      have a3 : nI (i + 2) + 1 = nI (i + 1 + 2) := nI_1 _
      rw [e_40_130]
      refine ⟨fun q => ?_, fun q => ?_⟩
      · simp only [e_40_0, e_40_1, e_40_2, e_40_3, e_40_4, e_40_7, e_40_10, e_40_11, e_40_12, e_40_13, e_40_14, e_40_17, e_40_19, e_40_20, e_40_21, e_40_22, e_40_24, e_40_25, e_40_26, e_40_27, e_40_30, e_40_33, e_40_34, e_40_35, e_40_36, e_40_37, e_40_40, e_40_43, e_40_44, e_40_45, e_40_46, e_40_47, e_40_50, e_40_53, e_40_54, e_40_56, e_40_58, e_40_59, e_40_62, e_40_63, e_40_64, e_40_65, e_40_66, e_40_69, e_40_71, e_40_72, e_40_73, e_40_75, e_40_76, e_40_79, e_40_81, e_40_82, e_40_83, e_40_84, e_40_85, e_40_87, e_40_88, e_40_89, e_40_91, e_40_93, e_40_94, e_40_96, e_40_98, e_40_99, e_40_100, e_40_101, e_40_104, e_40_107, e_40_108, e_40_109, e_40_110, e_40_111, e_40_113, e_40_114, e_40_115, e_40_116, e_40_119, e_40_122, e_40_125, e_40_128, e_40_129, e_40_131, e_40_132, e_40_135, e_40_138, e_40_139, e_40_140, e_40_141, e_40_142, e_40_145, e_40_147, e_40_149, e_40_150, e_40_153, e_40_155, e_40_156, e_40_159, e_40_162, e_40_163, Option.bind_some, Option.bind_none, m_kt, m_kn, Option.toList_some, Option.toList_none, List.nil_append, List.cons_append, List.append_nil, ltn, ite_not, ↓reduceIte, true_or, or_true, nP1, oI_s, oI_n, bI_f, bI_t, i1_0, i0_0, Bool.false_eq_true, not_true_eq_false, not_false_eq_true, gC2 H, h1, threeUpTo_ev O d H R set hr (show i + 2 < pN W by omega), lm3S_ne R (show i + 2 < pN W by omega), q, Bool.true_eq_false]
      · simp only [e_40_0, e_40_1, e_40_2, e_40_3, e_40_4, e_40_7, e_40_10, e_40_11, e_40_12, e_40_13, e_40_14, e_40_17, e_40_19, e_40_20, e_40_21, e_40_22, e_40_24, e_40_25, e_40_26, e_40_27, e_40_30, e_40_33, e_40_34, e_40_35, e_40_36, e_40_37, e_40_40, e_40_43, e_40_44, e_40_45, e_40_46, e_40_47, e_40_50, e_40_53, e_40_54, e_40_56, e_40_58, e_40_59, e_40_62, e_40_63, e_40_64, e_40_65, e_40_66, e_40_69, e_40_71, e_40_72, e_40_73, e_40_75, e_40_76, e_40_79, e_40_81, e_40_82, e_40_83, e_40_84, e_40_85, e_40_87, e_40_88, e_40_89, e_40_91, e_40_93, e_40_94, e_40_96, e_40_98, e_40_99, e_40_100, e_40_101, e_40_104, e_40_107, e_40_108, e_40_109, e_40_110, e_40_111, e_40_113, e_40_114, e_40_115, e_40_116, e_40_119, e_40_122, e_40_125, e_40_128, e_40_129, e_40_131, e_40_132, e_40_135, e_40_138, e_40_139, e_40_140, e_40_141, e_40_142, e_40_145, e_40_147, e_40_149, e_40_150, e_40_153, e_40_155, e_40_156, e_40_159, e_40_162, e_40_163, Option.bind_some, Option.bind_none, m_kt, m_kn, Option.toList_some, Option.toList_none, List.nil_append, List.cons_append, List.append_nil, ltn, ite_not, ↓reduceIte, true_or, or_true, nP1, oI_s, oI_n, bI_f, bI_t, i1_0, i0_0, Bool.false_eq_true, not_true_eq_false, not_false_eq_true, gC2 H, h1, threeUpTo_ev O d H R set hr (show i + 2 < pN W by omega), lm3S_ne R (show i + 2 < pN W by omega), q]
        exact ⟨_, rfl⟩) v
    simp only [Nat.zero_add, show nI 2 = 2 from rfl] at e
    unfold lm3V
    rcases e with ⟨i, ei, e⟩ | ⟨en, v, e⟩
    · rw [ei]; exact e
    · rw [en]
      refine e.trans ?_
      have h1 : nI (pN W) ≤ nI (pN W - 2 + 2) := nI_le (by omega) (by omega)
      rw [e_40_130]
      simp only [e_40_0, e_40_1, e_40_2, e_40_3, e_40_4, e_40_7, e_40_10, e_40_11, e_40_12, e_40_13, e_40_14, e_40_17, e_40_19, e_40_20, e_40_21, e_40_22, e_40_24, e_40_25, e_40_26, e_40_27, e_40_30, e_40_33, e_40_34, e_40_35, e_40_36, e_40_37, e_40_40, e_40_43, e_40_44, e_40_45, e_40_46, e_40_47, e_40_50, e_40_53, e_40_54, e_40_56, e_40_58, e_40_59, e_40_62, e_40_63, e_40_64, e_40_65, e_40_66, e_40_69, e_40_71, e_40_72, e_40_73, e_40_75, e_40_76, e_40_79, e_40_81, e_40_82, e_40_83, e_40_84, e_40_85, e_40_87, e_40_88, e_40_89, e_40_91, e_40_93, e_40_94, e_40_96, e_40_98, e_40_99, e_40_100, e_40_101, e_40_104, e_40_107, e_40_108, e_40_109, e_40_110, e_40_111, e_40_113, e_40_114, e_40_115, e_40_116, e_40_119, e_40_122, e_40_125, e_40_128, e_40_129, e_40_131, e_40_132, e_40_135, e_40_138, e_40_139, e_40_140, e_40_141, e_40_142, e_40_145, e_40_147, e_40_149, e_40_150, e_40_153, e_40_155, e_40_156, e_40_159, e_40_162, e_40_163, Option.bind_some, Option.bind_none, m_kt, m_kn, Option.toList_some, Option.toList_none, List.nil_append, List.cons_append, List.append_nil, ltn, ite_not, ↓reduceIte, true_or, or_true, nP1, oI_s, oI_n, bI_f, bI_t, i1_0, i0_0, Bool.false_eq_true, not_true_eq_false, not_false_eq_true, gC2 H, h1, Option.elim_none]
  have e2 : ∀ v : Value × Value × Value, ev O (d + 2) 40 45 [.ref a, .int (dmS W set hr), .int (dkS W set hr), .int 1, v.1, v.2.1, v.2.2] [] h = some (.inl (some (.int (lm2V W set hr))), h) := by
    intro v
    have e := fd_runV (ν := Value × Value × Value) (c := fun i => (lm2I W set hr i).isSome) (n := pN W - 1) (F := fun i v => ev O (d + 2) 40 45 [.ref a, .int (dmS W set hr), .int (dkS W set hr), .int (nI (i + 1)), v.1, v.2.1, v.2.2] [] h) (r := fun i => some (.inl (some (.int (shl1 (i + 1) ||| shl1 ((lm2I W set hr i).getD 0)))), h)) (fun i v hi => by
      have h1 : ¬ nI (pN W) ≤ nI (i + 1) := nI_ge (by omega) (by omega)
      have f2 := fd_runV (ν := Value × Value) (c := lm2C W set hr i) (n := i + 1) (F := fun b v => ev O (d + 2) 40 56 [.ref a, .int (dmS W set hr), .int (dkS W set hr), .int (nI (i + 1)), .int (nI b), v.1, v.2] [] h) (r := fun b => some (.inl (some (.int (shl1 (i + 1) ||| shl1 b))), h)) (fun b v hb2 => by
        have h2 : ¬ nI (i + 1) ≤ nI b := nI_ge hb2 (by omega)
        have en := en2 (set := set) (h := hr) R (show i + 1 < pN W by omega) hb2
        rw [e_40_56]
        refine ⟨fun q => ?_, fun q => ?_⟩
        · have q : litB W set hr (L2 (i + 1) b) 2 = true := q
          simp only [e_40_0, e_40_1, e_40_2, e_40_3, e_40_4, e_40_7, e_40_10, e_40_11, e_40_12, e_40_13, e_40_14, e_40_17, e_40_19, e_40_20, e_40_21, e_40_22, e_40_24, e_40_25, e_40_26, e_40_27, e_40_30, e_40_33, e_40_34, e_40_35, e_40_36, e_40_37, e_40_40, e_40_43, e_40_44, e_40_45, e_40_46, e_40_47, e_40_50, e_40_53, e_40_54, e_40_58, e_40_59, e_40_62, e_40_63, e_40_64, e_40_65, e_40_66, e_40_69, e_40_71, e_40_72, e_40_73, e_40_75, e_40_76, e_40_79, e_40_81, e_40_82, e_40_83, e_40_84, e_40_85, e_40_87, e_40_88, e_40_89, e_40_91, e_40_93, e_40_94, e_40_96, e_40_98, e_40_99, e_40_100, e_40_101, e_40_104, e_40_107, e_40_108, e_40_109, e_40_110, e_40_111, e_40_113, e_40_114, e_40_115, e_40_116, e_40_119, e_40_122, e_40_125, e_40_128, e_40_129, e_40_130, e_40_131, e_40_132, e_40_135, e_40_138, e_40_139, e_40_140, e_40_141, e_40_142, e_40_145, e_40_147, e_40_149, e_40_150, e_40_153, e_40_155, e_40_156, e_40_159, e_40_162, e_40_163, Option.bind_some, Option.bind_none, m_kt, m_kn, Option.toList_some, Option.toList_none, List.nil_append, List.cons_append, List.append_nil, ltn, ite_not, ↓reduceIte, true_or, or_true, nP1, oI_s, oI_n, bI_f, bI_t, i1_0, i0_0, Bool.false_eq_true, not_true_eq_false, not_false_eq_true, h2, H.isc, allBeside_ev O (d + 1) H, shl_nI, hb, isEnough_ev, en, q]
        · have q : litB W set hr (L2 (i + 1) b) 2 = false := q
          simp only [e_40_0, e_40_1, e_40_2, e_40_3, e_40_4, e_40_7, e_40_10, e_40_11, e_40_12, e_40_13, e_40_14, e_40_17, e_40_19, e_40_20, e_40_21, e_40_22, e_40_24, e_40_25, e_40_26, e_40_27, e_40_30, e_40_33, e_40_34, e_40_35, e_40_36, e_40_37, e_40_40, e_40_43, e_40_44, e_40_45, e_40_46, e_40_47, e_40_50, e_40_53, e_40_54, e_40_58, e_40_59, e_40_62, e_40_63, e_40_64, e_40_65, e_40_66, e_40_69, e_40_71, e_40_72, e_40_73, e_40_75, e_40_76, e_40_79, e_40_81, e_40_82, e_40_83, e_40_84, e_40_85, e_40_87, e_40_88, e_40_89, e_40_91, e_40_93, e_40_94, e_40_96, e_40_98, e_40_99, e_40_100, e_40_101, e_40_104, e_40_107, e_40_108, e_40_109, e_40_110, e_40_111, e_40_113, e_40_114, e_40_115, e_40_116, e_40_119, e_40_122, e_40_125, e_40_128, e_40_129, e_40_130, e_40_131, e_40_132, e_40_135, e_40_138, e_40_139, e_40_140, e_40_141, e_40_142, e_40_145, e_40_147, e_40_149, e_40_150, e_40_153, e_40_155, e_40_156, e_40_159, e_40_162, e_40_163, Option.bind_some, Option.bind_none, m_kt, m_kn, Option.toList_some, Option.toList_none, List.nil_append, List.cons_append, List.append_nil, ltn, ite_not, ↓reduceIte, true_or, or_true, nP1, oI_s, oI_n, bI_f, bI_t, i1_0, i0_0, Bool.false_eq_true, not_true_eq_false, not_false_eq_true, h2, H.isc, allBeside_ev O (d + 1) H, shl_nI, hb, isEnough_ev, en, q]
          exact ⟨(_, _), rfl⟩) (v.2.1, v.2.2)
      rw [e_40_45]
      simp only [nI_0] at f2
      simp only [e_40_0, e_40_1, e_40_2, e_40_3, e_40_4, e_40_7, e_40_10, e_40_11, e_40_12, e_40_13, e_40_14, e_40_17, e_40_19, e_40_20, e_40_21, e_40_22, e_40_24, e_40_25, e_40_26, e_40_27, e_40_30, e_40_33, e_40_34, e_40_35, e_40_36, e_40_37, e_40_40, e_40_43, e_40_44, e_40_46, e_40_47, e_40_50, e_40_53, e_40_54, e_40_58, e_40_59, e_40_62, e_40_63, e_40_64, e_40_65, e_40_66, e_40_69, e_40_71, e_40_72, e_40_73, e_40_75, e_40_76, e_40_79, e_40_81, e_40_82, e_40_83, e_40_84, e_40_85, e_40_87, e_40_88, e_40_89, e_40_91, e_40_93, e_40_94, e_40_96, e_40_98, e_40_99, e_40_100, e_40_101, e_40_104, e_40_107, e_40_108, e_40_109, e_40_110, e_40_111, e_40_113, e_40_114, e_40_115, e_40_116, e_40_119, e_40_122, e_40_125, e_40_128, e_40_129, e_40_130, e_40_131, e_40_132, e_40_135, e_40_138, e_40_139, e_40_140, e_40_141, e_40_142, e_40_145, e_40_147, e_40_149, e_40_150, e_40_153, e_40_155, e_40_156, e_40_159, e_40_162, e_40_163, Option.bind_some, Option.bind_none, m_kt, m_kn, Option.toList_some, Option.toList_none, List.nil_append, List.cons_append, List.append_nil, ltn, ite_not, ↓reduceIte, true_or, or_true, nP1, oI_s, oI_n, bI_f, bI_t, i1_0, i0_0, Bool.false_eq_true, not_true_eq_false, not_false_eq_true, gC2 H, h1]
      rcases f2 with ⟨b, eb, f2⟩ | ⟨en, v2, f2⟩
      · have eb : lm2I W set hr i = some b := eb
        refine ⟨fun _ => ?_, fun q => (by rw [eb] at q; cases q)⟩
        rw [eb]; exact f2
      · have en : lm2I W set hr i = none := en
        refine ⟨fun q => (by rw [en] at q; cases q), fun _ => ⟨(.int (nI (i + 1)), v2.1, v2.2), f2.trans ?_⟩⟩
        rw [e_40_56]
        simp only [e_40_0, e_40_1, e_40_2, e_40_3, e_40_4, e_40_7, e_40_10, e_40_11, e_40_12, e_40_13, e_40_14, e_40_17, e_40_19, e_40_20, e_40_21, e_40_22, e_40_24, e_40_25, e_40_26, e_40_27, e_40_30, e_40_33, e_40_34, e_40_35, e_40_36, e_40_37, e_40_40, e_40_43, e_40_44, e_40_46, e_40_47, e_40_50, e_40_53, e_40_54, e_40_58, e_40_59, e_40_62, e_40_63, e_40_64, e_40_65, e_40_66, e_40_69, e_40_71, e_40_72, e_40_73, e_40_75, e_40_76, e_40_79, e_40_81, e_40_82, e_40_83, e_40_84, e_40_85, e_40_87, e_40_88, e_40_89, e_40_91, e_40_93, e_40_94, e_40_96, e_40_98, e_40_99, e_40_100, e_40_101, e_40_104, e_40_107, e_40_108, e_40_109, e_40_110, e_40_111, e_40_113, e_40_114, e_40_115, e_40_116, e_40_119, e_40_122, e_40_125, e_40_128, e_40_129, e_40_130, e_40_131, e_40_132, e_40_135, e_40_138, e_40_139, e_40_140, e_40_141, e_40_142, e_40_145, e_40_147, e_40_149, e_40_150, e_40_153, e_40_155, e_40_156, e_40_159, e_40_162, e_40_163, Option.bind_some, Option.bind_none, m_kt, m_kn, Option.toList_some, Option.toList_none, List.nil_append, List.cons_append, List.append_nil, ltn, ite_not, ↓reduceIte, true_or, or_true, nP1, oI_s, oI_n, bI_f, bI_t, i1_0, i0_0, Bool.false_eq_true, not_true_eq_false, not_false_eq_true, Int32.le_refl]) v
    simp only [Nat.zero_add, show nI 1 = 1 from rfl] at e
    unfold lm2V
    rcases e with ⟨i, ei, e⟩ | ⟨en, v, e⟩
    · rw [ei]; exact e
    · rw [en]
      refine e.trans ?_
      rw [Nat.sub_add_cancel hP, e_40_45]
      simp only [e_40_0, e_40_1, e_40_2, e_40_3, e_40_4, e_40_7, e_40_10, e_40_11, e_40_12, e_40_13, e_40_14, e_40_17, e_40_19, e_40_20, e_40_21, e_40_22, e_40_24, e_40_25, e_40_26, e_40_27, e_40_30, e_40_33, e_40_34, e_40_35, e_40_36, e_40_37, e_40_40, e_40_43, e_40_44, e_40_46, e_40_47, e_40_50, e_40_53, e_40_54, e_40_58, e_40_59, e_40_62, e_40_63, e_40_64, e_40_65, e_40_66, e_40_69, e_40_71, e_40_72, e_40_73, e_40_75, e_40_76, e_40_79, e_40_81, e_40_82, e_40_83, e_40_84, e_40_85, e_40_87, e_40_88, e_40_89, e_40_91, e_40_93, e_40_94, e_40_96, e_40_98, e_40_99, e_40_100, e_40_101, e_40_104, e_40_107, e_40_108, e_40_109, e_40_110, e_40_111, e_40_113, e_40_114, e_40_115, e_40_116, e_40_119, e_40_122, e_40_125, e_40_128, e_40_129, e_40_131, e_40_132, e_40_135, e_40_138, e_40_139, e_40_140, e_40_141, e_40_142, e_40_145, e_40_147, e_40_149, e_40_150, e_40_153, e_40_155, e_40_156, e_40_159, e_40_162, e_40_163, Option.bind_some, Option.bind_none, m_kt, m_kn, Option.toList_some, Option.toList_none, List.nil_append, List.cons_append, List.append_nil, ltn, ite_not, ↓reduceIte, true_or, or_true, nP1, oI_s, oI_n, bI_f, bI_t, i1_0, i0_0, Bool.false_eq_true, not_true_eq_false, not_false_eq_true, gC2 H, Int32.le_refl, Option.elim_none]
      exact e3 _ _ _
  have e := fd_runV (ν := Value) (c := fun a => litB W set hr (L1 a) 1) (n := pN W) (F := fun i v => ev O (d + 2) 40 2 [.ref a, .int (dmS W set hr), .int (dkS W set hr), .int (nI i), v, mJ, mJ] [] h) (r := fun i => some (.inl (some (.int (shl1 i))), h)) (fun i v hi => by
    have h1 : ¬ nI (pN W) ≤ nI i := nI_ge hi (by omega)
    have en := en1 (set := set) (h := hr) R hi
    rw [e_40_2]
    refine ⟨fun q => ?_, fun q => ?_⟩
    · simp only [e_40_0, e_40_1, e_40_3, e_40_4, e_40_7, e_40_10, e_40_11, e_40_12, e_40_13, e_40_14, e_40_17, e_40_19, e_40_20, e_40_21, e_40_22, e_40_24, e_40_25, e_40_26, e_40_27, e_40_30, e_40_33, e_40_34, e_40_35, e_40_36, e_40_37, e_40_40, e_40_43, e_40_44, e_40_45, e_40_46, e_40_47, e_40_50, e_40_53, e_40_54, e_40_56, e_40_58, e_40_59, e_40_62, e_40_63, e_40_64, e_40_65, e_40_66, e_40_69, e_40_71, e_40_72, e_40_73, e_40_75, e_40_76, e_40_79, e_40_81, e_40_82, e_40_83, e_40_84, e_40_85, e_40_87, e_40_88, e_40_89, e_40_91, e_40_93, e_40_94, e_40_96, e_40_98, e_40_99, e_40_100, e_40_101, e_40_104, e_40_107, e_40_108, e_40_109, e_40_110, e_40_111, e_40_113, e_40_114, e_40_115, e_40_116, e_40_119, e_40_122, e_40_125, e_40_128, e_40_129, e_40_130, e_40_131, e_40_132, e_40_135, e_40_138, e_40_139, e_40_140, e_40_141, e_40_142, e_40_145, e_40_147, e_40_149, e_40_150, e_40_153, e_40_155, e_40_156, e_40_159, e_40_162, e_40_163, Option.bind_some, Option.bind_none, m_kt, m_kn, Option.toList_some, Option.toList_none, List.nil_append, List.cons_append, List.append_nil, ltn, ite_not, ↓reduceIte, true_or, or_true, nP1, oI_s, oI_n, bI_f, bI_t, i1_0, i0_0, Bool.false_eq_true, not_true_eq_false, not_false_eq_true, gC2 H, h1, H.isc, allBeside_ev O (d + 1) H, shl_nI, hb, isEnough_ev, en, q]
    · simp only [e_40_0, e_40_1, e_40_3, e_40_4, e_40_7, e_40_10, e_40_11, e_40_12, e_40_13, e_40_14, e_40_17, e_40_19, e_40_20, e_40_21, e_40_22, e_40_24, e_40_25, e_40_26, e_40_27, e_40_30, e_40_33, e_40_34, e_40_35, e_40_36, e_40_37, e_40_40, e_40_43, e_40_44, e_40_45, e_40_46, e_40_47, e_40_50, e_40_53, e_40_54, e_40_56, e_40_58, e_40_59, e_40_62, e_40_63, e_40_64, e_40_65, e_40_66, e_40_69, e_40_71, e_40_72, e_40_73, e_40_75, e_40_76, e_40_79, e_40_81, e_40_82, e_40_83, e_40_84, e_40_85, e_40_87, e_40_88, e_40_89, e_40_91, e_40_93, e_40_94, e_40_96, e_40_98, e_40_99, e_40_100, e_40_101, e_40_104, e_40_107, e_40_108, e_40_109, e_40_110, e_40_111, e_40_113, e_40_114, e_40_115, e_40_116, e_40_119, e_40_122, e_40_125, e_40_128, e_40_129, e_40_130, e_40_131, e_40_132, e_40_135, e_40_138, e_40_139, e_40_140, e_40_141, e_40_142, e_40_145, e_40_147, e_40_149, e_40_150, e_40_153, e_40_155, e_40_156, e_40_159, e_40_162, e_40_163, Option.bind_some, Option.bind_none, m_kt, m_kn, Option.toList_some, Option.toList_none, List.nil_append, List.cons_append, List.append_nil, ltn, ite_not, ↓reduceIte, true_or, or_true, nP1, oI_s, oI_n, bI_f, bI_t, i1_0, i0_0, Bool.false_eq_true, not_true_eq_false, not_false_eq_true, gC2 H, h1, H.isc, allBeside_ev O (d + 1) H, shl_nI, hb, isEnough_ev, en, q]
      exact ⟨_, rfl⟩) mJ
  simp only [nI_0] at e
  simp only [e_40_0, e_40_1, e_40_3, e_40_4, e_40_7, e_40_10, e_40_11, e_40_12, e_40_13, e_40_14, e_40_17, e_40_19, e_40_20, e_40_21, e_40_22, e_40_24, e_40_25, e_40_26, e_40_27, e_40_30, e_40_33, e_40_34, e_40_35, e_40_36, e_40_37, e_40_40, e_40_43, e_40_44, e_40_46, e_40_47, e_40_50, e_40_53, e_40_54, e_40_56, e_40_58, e_40_59, e_40_62, e_40_63, e_40_64, e_40_65, e_40_66, e_40_69, e_40_71, e_40_72, e_40_73, e_40_75, e_40_76, e_40_79, e_40_81, e_40_82, e_40_83, e_40_84, e_40_85, e_40_87, e_40_88, e_40_89, e_40_91, e_40_93, e_40_94, e_40_96, e_40_98, e_40_99, e_40_100, e_40_101, e_40_104, e_40_107, e_40_108, e_40_109, e_40_110, e_40_111, e_40_113, e_40_114, e_40_115, e_40_116, e_40_119, e_40_122, e_40_125, e_40_128, e_40_129, e_40_130, e_40_131, e_40_132, e_40_135, e_40_138, e_40_139, e_40_140, e_40_141, e_40_142, e_40_145, e_40_147, e_40_149, e_40_150, e_40_153, e_40_155, e_40_156, e_40_159, e_40_162, e_40_163, Option.bind_some, Option.bind_none, m_kt, m_kn, Option.toList_some, Option.toList_none, List.nil_append, List.cons_append, List.append_nil, ltn, ite_not, ↓reduceIte, true_or, or_true, nP1, oI_s, oI_n, bI_f, bI_t, i1_0, i0_0, Bool.false_eq_true, not_true_eq_false, not_false_eq_true]
  unfold lm1V
  rcases e with ⟨i, ei, e⟩ | ⟨en, v, e⟩
  · rw [ei]; exact e
  · rw [en]
    refine e.trans ?_
    rw [e_40_2]
    simp only [e_40_0, e_40_1, e_40_3, e_40_4, e_40_7, e_40_10, e_40_11, e_40_12, e_40_13, e_40_14, e_40_17, e_40_19, e_40_20, e_40_21, e_40_22, e_40_24, e_40_25, e_40_26, e_40_27, e_40_30, e_40_33, e_40_34, e_40_35, e_40_36, e_40_37, e_40_40, e_40_43, e_40_44, e_40_46, e_40_47, e_40_50, e_40_53, e_40_54, e_40_56, e_40_58, e_40_59, e_40_62, e_40_63, e_40_64, e_40_65, e_40_66, e_40_69, e_40_71, e_40_72, e_40_73, e_40_75, e_40_76, e_40_79, e_40_81, e_40_82, e_40_83, e_40_84, e_40_85, e_40_87, e_40_88, e_40_89, e_40_91, e_40_93, e_40_94, e_40_96, e_40_98, e_40_99, e_40_100, e_40_101, e_40_104, e_40_107, e_40_108, e_40_109, e_40_110, e_40_111, e_40_113, e_40_114, e_40_115, e_40_116, e_40_119, e_40_122, e_40_125, e_40_128, e_40_129, e_40_130, e_40_131, e_40_132, e_40_135, e_40_138, e_40_139, e_40_140, e_40_141, e_40_142, e_40_145, e_40_147, e_40_149, e_40_150, e_40_153, e_40_155, e_40_156, e_40_159, e_40_162, e_40_163, Option.bind_some, Option.bind_none, m_kt, m_kn, Option.toList_some, Option.toList_none, List.nil_append, List.cons_append, List.append_nil, ltn, ite_not, ↓reduceIte, true_or, or_true, nP1, oI_s, oI_n, bI_f, bI_t, i1_0, i0_0, Bool.false_eq_true, not_true_eq_false, not_false_eq_true, gC2 H, Int32.le_refl, Option.elim_none]
    exact e2 (v, mJ, mJ)
theorem fewest_ev (O : mO) (d : Nat) (H : CA h a W) (R : rng W) {set : Int32} {hr : Nat} (hh : hr < 24) : ev O (d + 3) 39 0 [.ref a, .int set, .int (nI hr), mJ, mJ, mJ, mJ] [] h = some (.inl (some (.int (lmpV W set hr))), h) := by
  have hN := pN_le R
  have e := lp_runV (ν := Value) (F := fun i (s : Int32 × Int32) v => ev O (d + 3) 39 8 [.ref a, .int set, .int (nI hr), .int s.1, .int s.2, .int (nI i), v] [] h) (f := fun p s => (if (bt set p && decide (lgN W p hr < 50) && decide (25 ≤ lgN W p hr)) = true then s.1 ||| shl1 p else s.1, if (bt set p && decide (lgN W p hr < 25)) = true then s.2 ||| shl1 p else s.2)) (n := pN W) (fun i s v hi => by
    have h1 : ¬ nI (pN W) ≤ nI i := nI_ge hi (by omega)
    obtain ⟨le, ll⟩ := lg_e R (show i < 30 by omega) hh
    have lb := lightBelow_ev O d H (show i < 30 by omega) (nI hr)
    rw [le] at lb
    have c50 : ((50 : Int32) ≤ nI (lgN W i hr)) = (50 ≤ lgN W i hr) := nLe (a := 50) (by omega) (by omega)
    have c25 : ((25 : Int32) ≤ nI (lgN W i hr)) = (25 ≤ lgN W i hr) := nLe (a := 25) (by omega) (by omega)
    rw [e_39_8]
    cases c : bt set i
    · simp only [e_39_0, e_39_1, e_39_2, e_39_3, e_39_5, e_39_6, e_39_10, e_39_11, e_39_14, e_39_17, e_39_18, e_39_20, e_39_21, e_39_24, e_39_26, e_39_27, e_39_29, e_39_30, e_39_31, e_39_32, e_39_35, e_39_37, e_39_39, e_39_42, e_39_45, e_39_47, e_39_49, e_39_52, e_39_53, e_39_54, e_39_56, e_39_57, e_39_58, e_39_59, e_39_62, e_39_64, e_39_65, e_39_67, e_39_68, e_39_69, e_39_71, e_39_74, e_39_77, e_39_78, e_39_80, e_39_81, e_39_84, e_39_85, e_39_86, e_39_87, e_39_88, e_39_90, e_39_93, Option.bind_some, Option.bind_none, m_kt, m_kn, Option.toList_some, Option.toList_none, List.nil_append, List.cons_append, List.append_nil, ltn, ite_not, ↓reduceIte, true_or, or_true, nP1, oI_s, oI_n, bI_f, bI_t, i1_0, i0_0, Bool.false_eq_true, not_true_eq_false, not_false_eq_true, gC2 H, h1, H.isc, lb, has_t set (show i < 32 by omega), c, Bool.false_and]
      exact ⟨_, rfl⟩
    · by_cases c1 : 50 ≤ lgN W i hr
      · have c2 : ¬ lgN W i hr < 50 := by omega
        have c3 : ¬ lgN W i hr < 25 := by omega
        simp only [e_39_0, e_39_1, e_39_2, e_39_3, e_39_5, e_39_6, e_39_10, e_39_11, e_39_14, e_39_17, e_39_18, e_39_20, e_39_21, e_39_24, e_39_26, e_39_27, e_39_29, e_39_30, e_39_31, e_39_32, e_39_35, e_39_37, e_39_39, e_39_42, e_39_45, e_39_47, e_39_49, e_39_52, e_39_53, e_39_54, e_39_56, e_39_57, e_39_58, e_39_59, e_39_62, e_39_64, e_39_65, e_39_67, e_39_68, e_39_69, e_39_71, e_39_74, e_39_77, e_39_78, e_39_80, e_39_81, e_39_84, e_39_85, e_39_86, e_39_87, e_39_88, e_39_90, e_39_93, Option.bind_some, Option.bind_none, m_kt, m_kn, Option.toList_some, Option.toList_none, List.nil_append, List.cons_append, List.append_nil, ltn, ite_not, ↓reduceIte, true_or, or_true, nP1, oI_s, oI_n, bI_f, bI_t, i1_0, i0_0, Bool.false_eq_true, not_true_eq_false, not_false_eq_true, gC2 H, h1, H.isc, lb, has_t set (show i < 32 by omega), c, c50, c1, Bool.true_and, c2, c3, decide_false, Bool.false_and]
        exact ⟨_, rfl⟩
      · have c2 : lgN W i hr < 50 := by omega
        by_cases c3 : 25 ≤ lgN W i hr
        · have c4 : ¬ lgN W i hr < 25 := by omega
          simp only [e_39_0, e_39_1, e_39_2, e_39_3, e_39_5, e_39_6, e_39_10, e_39_11, e_39_14, e_39_17, e_39_18, e_39_20, e_39_21, e_39_24, e_39_26, e_39_27, e_39_29, e_39_30, e_39_31, e_39_32, e_39_35, e_39_37, e_39_39, e_39_42, e_39_45, e_39_47, e_39_49, e_39_52, e_39_53, e_39_54, e_39_56, e_39_57, e_39_58, e_39_59, e_39_62, e_39_64, e_39_65, e_39_67, e_39_68, e_39_69, e_39_71, e_39_74, e_39_77, e_39_78, e_39_80, e_39_81, e_39_84, e_39_85, e_39_86, e_39_87, e_39_88, e_39_90, e_39_93, Option.bind_some, Option.bind_none, m_kt, m_kn, Option.toList_some, Option.toList_none, List.nil_append, List.cons_append, List.append_nil, ltn, ite_not, ↓reduceIte, true_or, or_true, nP1, oI_s, oI_n, bI_f, bI_t, i1_0, i0_0, Bool.false_eq_true, not_true_eq_false, not_false_eq_true, gC2 H, h1, H.isc, lb, has_t set (show i < 32 by omega), c, c50, c25, c1, c3, Bool.true_and, c2, c4, decide_false, decide_true, shl_nI]
          exact ⟨_, rfl⟩
        · have c4 : lgN W i hr < 25 := by omega
          simp only [e_39_0, e_39_1, e_39_2, e_39_3, e_39_5, e_39_6, e_39_10, e_39_11, e_39_14, e_39_17, e_39_18, e_39_20, e_39_21, e_39_24, e_39_26, e_39_27, e_39_29, e_39_30, e_39_31, e_39_32, e_39_35, e_39_37, e_39_39, e_39_42, e_39_45, e_39_47, e_39_49, e_39_52, e_39_53, e_39_54, e_39_56, e_39_57, e_39_58, e_39_59, e_39_62, e_39_64, e_39_65, e_39_67, e_39_68, e_39_69, e_39_71, e_39_74, e_39_77, e_39_78, e_39_80, e_39_81, e_39_84, e_39_85, e_39_86, e_39_87, e_39_88, e_39_90, e_39_93, Option.bind_some, Option.bind_none, m_kt, m_kn, Option.toList_some, Option.toList_none, List.nil_append, List.cons_append, List.append_nil, ltn, ite_not, ↓reduceIte, true_or, or_true, nP1, oI_s, oI_n, bI_f, bI_t, i1_0, i0_0, Bool.false_eq_true, not_true_eq_false, not_false_eq_true, gC2 H, h1, H.isc, lb, has_t set (show i < 32 by omega), c, c50, c25, c1, c3, Bool.true_and, c2, c4, decide_false, decide_true, shl_nI]
          exact ⟨_, rfl⟩) (0, 0) mJ
  have pr : ∀ n, lp (fun p (s : Int32 × Int32) => (if (bt set p && decide (lgN W p hr < 50) && decide (25 ≤ lgN W p hr)) = true then s.1 ||| shl1 p else s.1, if (bt set p && decide (lgN W p hr < 25)) = true then s.2 ||| shl1 p else s.2)) n (0, 0) = (lp (fun p s => if (bt set p && decide (lgN W p hr < 50) && decide (25 ≤ lgN W p hr)) = true then s ||| shl1 p else s) n 0, lp (fun p s => if (bt set p && decide (lgN W p hr < 25)) = true then s ||| shl1 p else s) n 0) := by
    intro n
    induction n with
    | zero => rfl
    | succ n ih => rw [lp_s, ih]; rfl
  obtain ⟨v, e⟩ := e
  rw [pr] at e
  have e1 : lp (fun p s => if (bt set p && decide (lgN W p hr < 50) && decide (25 ≤ lgN W p hr)) = true then s ||| shl1 p else s) (pN W) 0 = dmS W set hr := rfl
  have e2 : lp (fun p s => if (bt set p && decide (lgN W p hr < 25)) = true then s ||| shl1 p else s) (pN W) 0 = dkS W set hr := rfl
  rw [e1, e2] at e
  simp only [nI_0] at e
  simp only [e_39_0, e_39_1, e_39_2, e_39_3, e_39_5, e_39_6, e_39_10, e_39_11, e_39_14, e_39_17, e_39_18, e_39_20, e_39_21, e_39_24, e_39_26, e_39_27, e_39_29, e_39_30, e_39_31, e_39_32, e_39_35, e_39_37, e_39_39, e_39_42, e_39_45, e_39_47, e_39_49, e_39_52, e_39_53, e_39_54, e_39_56, e_39_57, e_39_58, e_39_59, e_39_62, e_39_64, e_39_65, e_39_67, e_39_68, e_39_69, e_39_71, e_39_74, e_39_77, e_39_78, e_39_80, e_39_81, e_39_84, e_39_85, e_39_86, e_39_87, e_39_88, e_39_90, e_39_93, Option.bind_some, Option.bind_none, m_kt, m_kn, Option.toList_some, Option.toList_none, List.nil_append, List.cons_append, List.append_nil, ltn, ite_not, ↓reduceIte, true_or, or_true, nP1, oI_s, oI_n, bI_f, bI_t, i1_0, i0_0, Bool.false_eq_true, not_true_eq_false, not_false_eq_true]
  rw [e, e_39_8]
  unfold lmpV
  cases c : litB W set hr (L1 0) 0
  · simp only [e_39_0, e_39_1, e_39_2, e_39_3, e_39_5, e_39_6, e_39_10, e_39_11, e_39_14, e_39_17, e_39_18, e_39_20, e_39_21, e_39_24, e_39_26, e_39_27, e_39_29, e_39_30, e_39_31, e_39_32, e_39_35, e_39_37, e_39_39, e_39_42, e_39_45, e_39_47, e_39_49, e_39_52, e_39_53, e_39_54, e_39_56, e_39_57, e_39_58, e_39_59, e_39_62, e_39_64, e_39_65, e_39_67, e_39_68, e_39_69, e_39_71, e_39_74, e_39_77, e_39_78, e_39_80, e_39_81, e_39_84, e_39_85, e_39_86, e_39_87, e_39_88, e_39_90, e_39_93, Option.bind_some, Option.bind_none, m_kt, m_kn, Option.toList_some, Option.toList_none, List.nil_append, List.cons_append, List.append_nil, ltn, ite_not, ↓reduceIte, true_or, or_true, nP1, oI_s, oI_n, bI_f, bI_t, i1_0, i0_0, Bool.false_eq_true, not_true_eq_false, not_false_eq_true, gC2 H, Int32.le_refl, en0 R, c, fewestFor_ev O d H R]
  · simp only [e_39_0, e_39_1, e_39_2, e_39_3, e_39_5, e_39_6, e_39_10, e_39_11, e_39_14, e_39_17, e_39_18, e_39_20, e_39_21, e_39_24, e_39_26, e_39_27, e_39_29, e_39_30, e_39_31, e_39_32, e_39_35, e_39_37, e_39_39, e_39_42, e_39_45, e_39_47, e_39_49, e_39_52, e_39_53, e_39_54, e_39_56, e_39_57, e_39_58, e_39_59, e_39_62, e_39_64, e_39_65, e_39_67, e_39_68, e_39_69, e_39_71, e_39_74, e_39_77, e_39_78, e_39_80, e_39_81, e_39_84, e_39_85, e_39_86, e_39_87, e_39_88, e_39_90, e_39_93, Option.bind_some, Option.bind_none, m_kt, m_kn, Option.toList_some, Option.toList_none, List.nil_append, List.cons_append, List.append_nil, ltn, ite_not, ↓reduceIte, true_or, or_true, nP1, oI_s, oI_n, bI_f, bI_t, i1_0, i0_0, Bool.false_eq_true, not_true_eq_false, not_false_eq_true, gC2 H, Int32.le_refl, en0 R, c]
end LampC
theorem Glamps_ev {h : mH} {g : gT} {W : WD} (O : mO) (d : Nat) (C : CG h g W) (x y : Int32) : GA (ev O (d + 4) 137 0 [.ref 0, .int x, .int y] [] h) h (if codeHr y = 1 then some 1 else none) (.int (lmpV W (x &&& allI (wN W) (gN W)) y.toNatClampNeg)) := by
  obtain ⟨G, H, ga, R, S⟩ := C
  unfold codeHr
  cases a2 : inB y 0 23
  · simp only [Bool.false_eq_true, ↓reduceIte]
    show _ = _
    simp only [e_137_0, e_137_1, e_137_4, e_137_5, e_137_8, e_137_9, e_137_10, e_137_13, e_137_16, e_137_17, e_137_18, e_137_21, Option.bind_some, Option.bind_none, m_kt, m_kn, Option.toList_some, Option.toList_none, List.nil_append, List.cons_append, List.append_nil, ltn, ite_not, ↓reduceIte, true_or, or_true, nP1, oI_s, oI_n, bI_f, bI_t, i1_0, i0_0, Bool.false_eq_true, not_true_eq_false, not_false_eq_true, iscG G, checkPane_ev O _ G H R, checkHour_ev, checkWithin_ev, checkOwner_ev, checkSeer_ev O _ G H R, gG0 G, H.isc, Bool.false_eq_true, a2]
  · have b2 := a2
    obtain ⟨k, hk, rfl⟩ := inB_h a2
    simp only [↓reduceIte, Nat.zero_ne_one]
    refine ⟨h, ?_, sc.rf h⟩
    rw [nI_clamp (show k < 2 ^ 31 by omega)]
    simp only [e_137_0, e_137_1, e_137_4, e_137_5, e_137_8, e_137_9, e_137_10, e_137_13, e_137_16, e_137_17, e_137_18, e_137_21, Option.bind_some, Option.bind_none, m_kt, m_kn, Option.toList_some, Option.toList_none, List.nil_append, List.cons_append, List.append_nil, ltn, ite_not, ↓reduceIte, true_or, or_true, nP1, oI_s, oI_n, bI_f, bI_t, i1_0, i0_0, Bool.false_eq_true, not_true_eq_false, not_false_eq_true, iscG G, checkPane_ev O _ G H R, checkHour_ev, checkWithin_ev, checkOwner_ev, checkSeer_ev O _ G H R, gG0 G, H.isc, Bool.false_eq_true, b2, gC3 H, fewest_ev O d H R hk]
/-! The reference's lamps -/
theorem ltB_all {W : WD} (R : rng W) (x : Int32) (h : Nat) (L : Nat → Nat) (n : Nat) {p : Nat} (hp : p < pN W) : ltB W (x &&& allI (wN W) (gN W)) h L n p = ltB W x h L n p := by
  have hN := pN_le R
  unfold ltB ndN
  rw [b_and, bt_all (show wN W * gN W < 31 by unfold pN at hN; omega) (by omega), decide_eq_true (show p < wN W * gN W from hp), Bool.and_true]
theorem litB_all {W : WD} (R : rng W) (x : Int32) (h : Nat) (L : Nat → Nat) (n : Nat) : litB W (x &&& allI (wN W) (gN W)) h L n = litB W x h L n := by
  unfold litB
  rw [fd_congr (fun i hi => by rw [ltB_all R x h L n hi])]
theorem lmp_all {W : WD} (R : rng W) (x : Int32) (h : Nat) : lmpV W (x &&& allI (wN W) (gN W)) h = lmpV W x h := by
  have a := litB_all R x h
  unfold lmpV lm1V lm2V lm3V lm3S lm2I lm3I lm3J
  have e2 : lm2C W (x &&& allI (wN W) (gN W)) h = lm2C W x h := by funext i b; exact a _ _
  have e3 : lm3C W (x &&& allI (wN W) (gN W)) h = lm3C W x h := by funext i j c; exact a _ _
  simp only [a, e2, e3]
