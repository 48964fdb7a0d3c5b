/-! The reference reads all lines of the city; its call city -/
def mRA (m : Nat → Int32) : Nat → Int32 := upd (upd m 10 (m 8)) 8 0
theorem mRA_eq (m : Nat → Int32) : upd (upd (upd (upd m 10 (m 8)) 8 0) 9 0) 15 0 = mz5 (mRA m) 0 (m 11) (m 12) 0 := by
  funext k
  unfold mz5 mRA upd
  by_cases h15 : k = 15
  · subst h15; rfl
  by_cases h9 : k = 9
  · subst h9; rfl
  by_cases h11 : k = 11
  · subst h11; rfl
  by_cases h12 : k = 12
  · subst h12; rfl
  rw [if_neg h15, if_neg h9, if_neg h9, if_neg h11, if_neg h12, if_neg h15]
theorem hz_of {h : mH} {W : WD} (e : h.1[67]? = some (aI 2101 W)) (m : Nat → Int32) (p b dp st : Int32) : hz h m p b dp st W = (h.1.set 66 (oM (mz5 m p b dp st)), h.2) := by
  unfold hz
  rw [List.set_comm _ _ (by decide), hset e]
def MQr (r : Option mR) (h : mH) (m : Nat → Int32) (dp st : Int32) (s : Nat ⊕ WD) : Prop := match s with
  | .inl f => ∃ p' V', r = some (.inl (some (.int (-1))), hz h m p' (nI f) dp st V')
  | .inr V => ∃ n p' b', n < 100 ∧ r = some (.inl (some (.int (nI n))), hz h m p' b' dp st V)
section ReadAll
variable {h : mH} {m : Nat → Int32} {l : Nat} {B : Nat → Int32} {dp st : Int32}
theorem readLineC_ev (O : mO) (d : Nat) (X : MTX O) (R : RZ h m l B) {V : WD} (G : rng V) {q : Nat} (hq : q ≤ l) {b : Int32} {n : Nat} (hn : n < 14) : MR (ev O (d + 9) 187 0 [.ref 66, .int 1, .int (nI n)] [] (hz h m (nI q) b dp st V)) h m dp st (clS B l V (sb B l q)) := by
  have c1 : ¬ (14 : Int32) ≤ nI n := nI_ge (b := 14) (by omega) (by omega)
  simp only [e_187_0, e_187_1, e_187_4, e_187_5, e_187_6, e_187_9, e_187_11, e_187_14, e_187_16, e_187_19, e_187_20, e_187_23, e_187_24, e_187_27, e_187_30, e_187_33, e_187_34, e_187_35, e_187_38, e_187_41, e_187_42, e_187_45, e_187_46, Option.bind_some, Option.bind_none, m_kt, m_kn, Option.toList_some, Option.toList_none, List.nil_append, List.cons_append, List.append_nil, ltn, ite_not, ↓reduceIte, true_or, or_true, nP1, oI_s, oI_n, bI_f, bI_t, i1_0, i0_0, Bool.false_eq_true, not_true_eq_false, not_false_eq_true, Zisc R, letters_ev O (d + 6) R hq, c1]
  refine MR_bind (cityLineM_ev O d X R (sb_le hq) G) (fun x h' hx => ?_)
  rcases hx with rfl | rfl <;> simp only [Option.toList_some, e_187_0, e_187_1, e_187_4, e_187_5, e_187_6, e_187_9, e_187_11, e_187_14, e_187_16, e_187_19, e_187_20, e_187_23, e_187_24, e_187_27, e_187_30, e_187_33, e_187_34, e_187_35, e_187_38, e_187_41, e_187_42, e_187_45, e_187_46, Option.bind_some, Option.bind_none, m_kt, m_kn, Option.toList_some, Option.toList_none, List.nil_append, List.cons_append, List.append_nil, ltn, ite_not, ↓reduceIte, true_or, or_true, nP1, oI_s, oI_n, bI_f, bI_t, i1_0, i0_0, Bool.false_eq_true, not_true_eq_false, not_false_eq_true, z01, o01]
theorem readAllC_run (O : mO) (d : Nat) (X : MTX O) (R : RZ h m l B) : ∀ (k i : Nat) {V : WD} {p : Nat} {b : Int32}, i + k = 14 → rng V → p ≤ l → MQr (ev O (d + 10) 188 42 [.ref 66, .int 1, .int (nI i)] [] (hz h m (nI p) b dp st V)) h m dp st (clsS B l k V p) := by
  have hl := R.2.2.2.2
  intro k
  induction k with
  | zero =>
    intro i V p b hi G hpl
    have c1 : (14 : Int32) ≤ nI i := nI_le (a := 14) (by omega) (by omega)
    refine ⟨nI (le' B l (sb B l p)), V, ?_⟩
    have rl : ev O (d + 9) 187 0 [.ref 66, .int 1, .int (nI i)] [] (hz h m (nI p) b dp st V) = some (.inl (some (.int (0))), hz h m (nI (le' B l (sb B l p))) (nI (sb B l p)) dp st V) := by
      simp only [e_187_0, e_187_1, e_187_4, e_187_5, e_187_6, e_187_9, e_187_11, e_187_14, e_187_16, e_187_19, e_187_20, e_187_23, e_187_24, e_187_27, e_187_30, e_187_33, e_187_34, e_187_35, e_187_38, e_187_41, e_187_42, e_187_45, e_187_46, Option.bind_some, Option.bind_none, m_kt, m_kn, Option.toList_some, Option.toList_none, List.nil_append, List.cons_append, List.append_nil, ltn, ite_not, ↓reduceIte, true_or, or_true, nP1, oI_s, oI_n, bI_f, bI_t, i1_0, i0_0, Bool.false_eq_true, not_true_eq_false, not_false_eq_true, Zisc R, letters_ev O (d + 6) R hpl, c1, z01]
    rw [e_188_42]
    simp only [e_188_0, e_188_1, e_188_2, e_188_5, e_188_8, e_188_9, e_188_10, e_188_13, e_188_14, e_188_15, e_188_18, e_188_19, e_188_20, e_188_23, e_188_24, e_188_27, e_188_28, e_188_31, e_188_32, e_188_35, e_188_38, e_188_39, e_188_40, e_188_41, e_188_43, e_188_44, e_188_45, e_188_48, e_188_51, e_188_52, e_188_53, e_188_54, e_188_57, e_188_58, e_188_61, e_188_62, e_188_65, e_188_68, e_188_69, e_188_70, e_188_71, e_188_72, e_188_73, e_188_75, e_188_77, e_188_80, e_188_83, e_188_84, e_188_85, e_188_86, e_188_87, e_188_90, e_188_91, e_188_92, e_188_95, e_188_98, Option.bind_some, Option.bind_none, m_kt, m_kn, Option.toList_some, Option.toList_none, List.nil_append, List.cons_append, List.append_nil, ltn, ite_not, ↓reduceIte, true_or, or_true, nP1, oI_s, oI_n, bI_f, bI_t, i1_0, i0_0, Bool.false_eq_true, not_true_eq_false, not_false_eq_true, Zisc R, rl]
  | succ k ih =>
    intro i V p b hi G hpl
    have rl := readLineC_ev (dp := dp) (st := st) O d X R G hpl (b := b) (n := i) (by omega)
    unfold clsS
    cases e : clS B l V (sb B l p) with
    | inl f =>
      rw [e] at rl
      obtain ⟨p', V', rl⟩ := rl
      refine ⟨p', V', ?_⟩
      rw [e_188_42]
      simp only [e_188_0, e_188_1, e_188_2, e_188_5, e_188_8, e_188_9, e_188_10, e_188_13, e_188_14, e_188_15, e_188_18, e_188_19, e_188_20, e_188_23, e_188_24, e_188_27, e_188_28, e_188_31, e_188_32, e_188_35, e_188_38, e_188_39, e_188_40, e_188_41, e_188_43, e_188_44, e_188_45, e_188_48, e_188_51, e_188_52, e_188_53, e_188_54, e_188_57, e_188_58, e_188_61, e_188_62, e_188_65, e_188_68, e_188_69, e_188_70, e_188_71, e_188_72, e_188_73, e_188_75, e_188_77, e_188_80, e_188_83, e_188_84, e_188_85, e_188_86, e_188_87, e_188_90, e_188_91, e_188_92, e_188_95, e_188_98, Option.bind_some, Option.bind_none, m_kt, m_kn, Option.toList_some, Option.toList_none, List.nil_append, List.cons_append, List.append_nil, ltn, ite_not, ↓reduceIte, true_or, or_true, nP1, oI_s, oI_n, bI_f, bI_t, i1_0, i0_0, Bool.false_eq_true, not_true_eq_false, not_false_eq_true, Zisc R, rl]
    | inr x =>
      rw [e] at rl
      obtain ⟨b', rl⟩ := rl
      obtain ⟨x1, x2, x3⟩ := clS_ok G e
      have s2 := sb_le (B := B) x3
      simp only [sbd_r]
      by_cases z : sb B l x.2 = l
      · rw [if_pos z]
        refine ⟨i + 1, nI (sb B l x.2), nI (sb B l x.2), by omega, ?_⟩
        rw [e_188_42]
        simp only [e_188_0, e_188_1, e_188_2, e_188_5, e_188_8, e_188_9, e_188_10, e_188_13, e_188_14, e_188_15, e_188_18, e_188_19, e_188_20, e_188_23, e_188_24, e_188_27, e_188_28, e_188_31, e_188_32, e_188_35, e_188_38, e_188_39, e_188_40, e_188_41, e_188_43, e_188_44, e_188_45, e_188_48, e_188_51, e_188_52, e_188_53, e_188_54, e_188_57, e_188_58, e_188_61, e_188_62, e_188_65, e_188_68, e_188_69, e_188_70, e_188_71, e_188_72, e_188_73, e_188_75, e_188_77, e_188_80, e_188_83, e_188_84, e_188_85, e_188_86, e_188_87, e_188_90, e_188_91, e_188_92, e_188_95, e_188_98, Option.bind_some, Option.bind_none, m_kt, m_kn, Option.toList_some, Option.toList_none, List.nil_append, List.cons_append, List.append_nil, ltn, ite_not, ↓reduceIte, true_or, or_true, nP1, oI_s, oI_n, bI_f, bI_t, i1_0, i0_0, Bool.false_eq_true, not_true_eq_false, not_false_eq_true, Zisc R, rl, blanks_ev O (d + 8) R x3, gz9 R, gz10 R, z]
      · rw [if_neg z]
        have nz : ¬ nI (sb B l x.2) = nI l := fun y => z ((nI_eq (by omega) (by omega)).mp y)
        have ea : atB B l (sb B l x.2) 59 59 = sg B l x.2 59 := by unfold atB sg; rw [at_eq]
        cases y : sg B l x.2 59
        · simp only [Bool.false_eq_true, ↓reduceIte]
          refine ⟨nI (sb B l x.2), x.1, ?_⟩
          rw [e_188_42]
          simp only [e_188_0, e_188_1, e_188_2, e_188_5, e_188_8, e_188_9, e_188_10, e_188_13, e_188_14, e_188_15, e_188_18, e_188_19, e_188_20, e_188_23, e_188_24, e_188_27, e_188_28, e_188_31, e_188_32, e_188_35, e_188_38, e_188_39, e_188_40, e_188_41, e_188_43, e_188_44, e_188_45, e_188_48, e_188_51, e_188_52, e_188_53, e_188_54, e_188_57, e_188_58, e_188_61, e_188_62, e_188_65, e_188_68, e_188_69, e_188_70, e_188_71, e_188_72, e_188_73, e_188_75, e_188_77, e_188_80, e_188_83, e_188_84, e_188_85, e_188_86, e_188_87, e_188_90, e_188_91, e_188_92, e_188_95, e_188_98, Option.bind_some, Option.bind_none, m_kt, m_kn, Option.toList_some, Option.toList_none, List.nil_append, List.cons_append, List.append_nil, ltn, ite_not, ↓reduceIte, true_or, or_true, nP1, oI_s, oI_n, bI_f, bI_t, i1_0, i0_0, Bool.false_eq_true, not_true_eq_false, not_false_eq_true, Zisc R, rl, blanks_ev O (d + 8) R x3, gz9 R, gz10 R, nz, isAt_ev O (d + 9) R s2, ea, y]
        · simp only [↓reduceIte]
          have r := ih (i + 1) (b := nI (sb B l x.2)) (p := sb B l x.2 + 1) (by omega) x1 (by omega)
          rw [e_188_42]
          simp only [e_188_0, e_188_1, e_188_2, e_188_5, e_188_8, e_188_9, e_188_10, e_188_13, e_188_14, e_188_15, e_188_18, e_188_19, e_188_20, e_188_23, e_188_24, e_188_27, e_188_28, e_188_31, e_188_32, e_188_35, e_188_38, e_188_39, e_188_40, e_188_41, e_188_43, e_188_44, e_188_45, e_188_48, e_188_51, e_188_52, e_188_53, e_188_54, e_188_57, e_188_58, e_188_61, e_188_62, e_188_65, e_188_68, e_188_69, e_188_70, e_188_71, e_188_72, e_188_73, e_188_75, e_188_77, e_188_80, e_188_83, e_188_84, e_188_85, e_188_86, e_188_87, e_188_90, e_188_91, e_188_92, e_188_95, e_188_98, Option.bind_some, Option.bind_none, m_kt, m_kn, Option.toList_some, Option.toList_none, List.nil_append, List.cons_append, List.append_nil, ltn, ite_not, ↓reduceIte, true_or, or_true, nP1, oI_s, oI_n, bI_f, bI_t, i1_0, i0_0, Bool.false_eq_true, not_true_eq_false, not_false_eq_true, Zisc R, rl, blanks_ev O (d + 8) R x3, gz9 R, gz10 R, nz, isAt_ev O (d + 9) R s2, ea, y, cat_ref, pz9 R]
          exact r
theorem readAllC_ev (O : mO) (d : Nat) (X : MTX O) {W : WD} (H : MS h m W) (h8 : m 8 = nI l) (hl : l ≤ 400) (e71 : h.1[71]? = some (aB 400 B)) (G : rng W) : MQr (ev O (d + 10) 188 0 [.ref 66, .int 1, mJ] [] h) h (mRA m) (m 12) 0 (ctS B l W) := by
  have R : RZ h (mRA m) l B := ⟨⟨m, H.1⟩, ⟨W, H.2⟩, e71, h8, hl⟩
  have p1 : m_pf h 66 8 10 (.int (m 8)) = some (h.1.set 66 (oM (upd m 10 (m 8))), h.2) := pM10 H.1 _
  have c1 : ∀ q, ((h.1.set 66 (oM q), h.2) : mH).1[66]? = some (oM q) := fun q => hget H.1
  have e0 : ev O (d + 10) 188 0 [.ref 66, .int 1, mJ] [] h = ev O (d + 10) 188 23 [.ref 66, .int 1, mJ] [] (hz h (mRA m) (nI 0) (m 11) (m 12) 0 W) := by
    rw [hz_of H.2, nI_0, ← mRA_eq]
    simp only [e_188_0, e_188_1, e_188_2, e_188_5, e_188_8, e_188_9, e_188_10, e_188_13, e_188_14, e_188_15, e_188_18, e_188_19, e_188_20, e_188_24, e_188_27, e_188_28, e_188_31, e_188_32, e_188_35, e_188_38, e_188_39, e_188_40, e_188_41, e_188_43, e_188_44, e_188_45, e_188_48, e_188_51, e_188_52, e_188_53, e_188_54, e_188_57, e_188_58, e_188_61, e_188_62, e_188_65, e_188_68, e_188_69, e_188_70, e_188_71, e_188_72, e_188_73, e_188_75, e_188_77, e_188_80, e_188_83, e_188_84, e_188_85, e_188_86, e_188_87, e_188_90, e_188_91, e_188_92, e_188_95, e_188_98, Option.bind_some, Option.bind_none, m_kt, m_kn, Option.toList_some, Option.toList_none, List.nil_append, List.cons_append, List.append_nil, ltn, ite_not, ↓reduceIte, true_or, or_true, nP1, oI_s, oI_n, bI_f, bI_t, i1_0, i0_0, Bool.false_eq_true, not_true_eq_false, not_false_eq_true, gM8 H.1, p1, pM8 (c1 _), pM9 (c1 _), pM15 (c1 _), List.set_set]
  rw [e0]
  unfold ctS
  have s2 := sb_le (B := B) (Nat.zero_le l)
  by_cases z : sb B l 0 = l
  · rw [if_pos z]
    refine ⟨0, nI (sb B l 0), nI (sb B l 0), by omega, ?_⟩
    simp only [e_188_0, e_188_1, e_188_2, e_188_5, e_188_8, e_188_9, e_188_10, e_188_13, e_188_14, e_188_15, e_188_18, e_188_19, e_188_20, e_188_23, e_188_24, e_188_27, e_188_28, e_188_31, e_188_32, e_188_35, e_188_38, e_188_39, e_188_40, e_188_41, e_188_43, e_188_44, e_188_45, e_188_48, e_188_51, e_188_52, e_188_53, e_188_54, e_188_57, e_188_58, e_188_61, e_188_62, e_188_65, e_188_68, e_188_69, e_188_70, e_188_71, e_188_72, e_188_73, e_188_75, e_188_77, e_188_80, e_188_83, e_188_84, e_188_85, e_188_86, e_188_87, e_188_90, e_188_91, e_188_92, e_188_95, e_188_98, Option.bind_some, Option.bind_none, m_kt, m_kn, Option.toList_some, Option.toList_none, List.nil_append, List.cons_append, List.append_nil, ltn, ite_not, ↓reduceIte, true_or, or_true, nP1, oI_s, oI_n, bI_f, bI_t, i1_0, i0_0, Bool.false_eq_true, not_true_eq_false, not_false_eq_true, Zisc R, blanks_ev O (d + 8) R (Nat.zero_le _), gz9 R, gz10 R, z]
    rfl
  · rw [if_neg z]
    have nz : ¬ nI (sb B l 0) = nI l := fun y => z ((nI_eq (by omega) (by omega)).mp y)
    have r := readAllC_run (dp := m 12) (st := 0) O d X R 14 0 (b := nI (sb B l 0)) (p := sb B l 0) (by omega) G s2
    simp only [e_188_0, e_188_1, e_188_2, e_188_5, e_188_8, e_188_9, e_188_10, e_188_13, e_188_14, e_188_15, e_188_18, e_188_19, e_188_20, e_188_23, e_188_24, e_188_27, e_188_28, e_188_31, e_188_32, e_188_35, e_188_38, e_188_39, e_188_40, e_188_41, e_188_43, e_188_44, e_188_45, e_188_48, e_188_51, e_188_52, e_188_53, e_188_54, e_188_57, e_188_58, e_188_61, e_188_62, e_188_65, e_188_68, e_188_69, e_188_70, e_188_71, e_188_72, e_188_73, e_188_75, e_188_77, e_188_80, e_188_83, e_188_84, e_188_85, e_188_86, e_188_87, e_188_90, e_188_91, e_188_92, e_188_95, e_188_98, Option.bind_some, Option.bind_none, m_kt, m_kn, Option.toList_some, Option.toList_none, List.nil_append, List.cons_append, List.append_nil, ltn, ite_not, ↓reduceIte, true_or, or_true, nP1, oI_s, oI_n, bI_f, bI_t, i1_0, i0_0, Bool.false_eq_true, not_true_eq_false, not_false_eq_true, Zisc R, blanks_ev O (d + 8) R (Nat.zero_le _), gz9 R, gz10 R, nz]
    exact r
end ReadAll
