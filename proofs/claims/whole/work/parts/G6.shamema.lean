/-! The reference reads an atom -/
section LawMA
variable {h : mH} {m : Nat → Int32} {l p s : Nat} {B : Nat → Int32} {b dp : Int32} {V : WD}
theorem twoM_ev (O : mO) (e : Nat) (X : MTL O) (R : RZ h m l B) (hp' : p ≤ l) (hs : s + 4 ≤ p) : MC (ev O (e + 8) 183 114 [.ref 66, mJ] [] (hz h m (nI p) b dp (nI s) V)) h m dp s V (sbd (suS B l p) fun x =>
    if sg B l x.1 60 = true then sbd (suS B l (sb B l x.1 + 1)) fun y => .inr (y.1, x.2 ++ (y.2 ++ [(9, 0)]))
    else if sg B l x.1 62 = true then sbd (suS B l (sb B l x.1 + 1)) fun y => .inr (y.1, x.2 ++ (y.2 ++ [(10, 0)]))
    else .inl (sb B l x.1)) := by
  have hl := R.2.2.2.2
  have s1 := sumM_ev (b := b) (dp := dp) (V := V) O e X R hp' hs
  cases e1 : suS B l p with
  | inl f =>
    rw [e1] at s1
    obtain ⟨p', dp', s', V', s1, s1'⟩ := s1
    refine ⟨p', dp', s', V', ?_, s1'⟩
    simp only [e_183_0, e_183_1, e_183_3, e_183_6, e_183_9, e_183_10, e_183_13, e_183_15, e_183_18, e_183_19, e_183_20, e_183_21, e_183_22, e_183_25, e_183_26, e_183_27, e_183_30, e_183_31, e_183_34, e_183_37, e_183_38, e_183_39, e_183_40, e_183_41, e_183_44, e_183_45, e_183_46, e_183_49, e_183_50, e_183_52, e_183_55, e_183_56, e_183_57, e_183_59, e_183_62, e_183_65, e_183_66, e_183_69, e_183_71, e_183_74, e_183_75, e_183_76, e_183_77, e_183_78, e_183_81, e_183_82, e_183_83, e_183_86, e_183_87, e_183_90, e_183_93, e_183_94, e_183_95, e_183_96, e_183_97, e_183_100, e_183_101, e_183_102, e_183_105, e_183_106, e_183_108, e_183_109, e_183_112, e_183_113, e_183_114, e_183_115, e_183_118, e_183_121, e_183_122, e_183_123, e_183_124, e_183_126, e_183_129, e_183_130, e_183_131, e_183_134, e_183_135, e_183_137, e_183_140, e_183_143, e_183_144, e_183_147, e_183_150, e_183_151, e_183_152, e_183_153, e_183_154, e_183_157, e_183_159, e_183_162, e_183_164, e_183_165, e_183_168, e_183_169, Option.bind_some, Option.bind_none, m_kt, m_kn, Option.toList_some, Option.toList_none, List.nil_append, List.cons_append, List.append_nil, ltn, ite_not, ↓reduceIte, true_or, or_true, nP1, oI_s, oI_n, bI_f, bI_t, i1_0, i0_0, Bool.false_eq_true, not_true_eq_false, not_false_eq_true, Zisc R, s1, z01]
  | inr x =>
    rw [e1] at s1
    obtain ⟨b1, s1⟩ := s1
    obtain ⟨x1, x2, x3, -⟩ := suS_ok p x hp' e1
    have sx := sb_le (B := B) x2
    have sy := sb_ge B l x.1
    simp only [sbd_r]
    cases z6 : sg B l x.1 60
    · cases z7 : sg B l x.1 62
      · refine ⟨nI (sb B l x.1), dp, nI (s + x.2.length), wrM V s x.2, ?_, fun i hi => wrM_lo _ _ _ (by omega)⟩
        have z6' : sg B l (sb B l x.1) 62 = false := by unfold sg at *; rw [sb_sb]; exact z7
        simp only [e_183_0, e_183_1, e_183_3, e_183_6, e_183_9, e_183_10, e_183_13, e_183_15, e_183_18, e_183_19, e_183_20, e_183_21, e_183_22, e_183_25, e_183_26, e_183_27, e_183_30, e_183_31, e_183_34, e_183_37, e_183_38, e_183_39, e_183_40, e_183_41, e_183_44, e_183_45, e_183_46, e_183_49, e_183_50, e_183_52, e_183_55, e_183_56, e_183_57, e_183_59, e_183_62, e_183_65, e_183_66, e_183_69, e_183_71, e_183_74, e_183_75, e_183_76, e_183_77, e_183_78, e_183_81, e_183_82, e_183_83, e_183_86, e_183_87, e_183_90, e_183_93, e_183_94, e_183_95, e_183_96, e_183_97, e_183_100, e_183_101, e_183_102, e_183_105, e_183_106, e_183_108, e_183_109, e_183_112, e_183_113, e_183_114, e_183_115, e_183_118, e_183_121, e_183_122, e_183_123, e_183_124, e_183_126, e_183_129, e_183_130, e_183_131, e_183_134, e_183_135, e_183_137, e_183_140, e_183_143, e_183_144, e_183_147, e_183_150, e_183_151, e_183_152, e_183_153, e_183_154, e_183_157, e_183_159, e_183_162, e_183_164, e_183_165, e_183_168, e_183_169, Option.bind_some, Option.bind_none, m_kt, m_kn, Option.toList_some, Option.toList_none, List.nil_append, List.cons_append, List.append_nil, ltn, ite_not, ↓reduceIte, true_or, or_true, nP1, oI_s, oI_n, bI_f, bI_t, i1_0, i0_0, Bool.false_eq_true, not_true_eq_false, not_false_eq_true, Zisc R, s1, sign_ev O (e + 5) R x2, z6, sign_ev O (e + 5) R sx, z6', sb_sb, z01]
      · have zl := (sg_lt z7).1
        have z7' : sg B l (sb B l x.1) 62 = true := by unfold sg at *; rw [sb_sb]; exact z7
        have s2 := sumM_ev (b := nI (sb B l x.1)) (dp := dp) (p := sb B l x.1 + 1) (s := s + x.2.length) (V := wrM V s x.2) O e X R (by omega) (by omega)
        simp only [Bool.false_eq_true, ↓reduceIte]
        cases e2 : suS B l (sb B l x.1 + 1) with
        | inl f =>
          rw [e2] at s2
          obtain ⟨p', dp', s', V', s2, s2'⟩ := s2
          refine ⟨p', dp', s', V', ?_, fun i hi => by rw [s2' i hi, wrM_lo _ _ _ (by omega)]⟩
          simp only [e_183_0, e_183_1, e_183_3, e_183_6, e_183_9, e_183_10, e_183_13, e_183_15, e_183_18, e_183_19, e_183_20, e_183_21, e_183_22, e_183_25, e_183_26, e_183_27, e_183_30, e_183_31, e_183_34, e_183_37, e_183_38, e_183_39, e_183_40, e_183_41, e_183_44, e_183_45, e_183_46, e_183_49, e_183_50, e_183_52, e_183_55, e_183_56, e_183_57, e_183_59, e_183_62, e_183_65, e_183_66, e_183_69, e_183_71, e_183_74, e_183_75, e_183_76, e_183_77, e_183_78, e_183_81, e_183_82, e_183_83, e_183_86, e_183_87, e_183_90, e_183_93, e_183_94, e_183_95, e_183_96, e_183_97, e_183_100, e_183_101, e_183_102, e_183_105, e_183_106, e_183_108, e_183_109, e_183_112, e_183_113, e_183_114, e_183_115, e_183_118, e_183_121, e_183_122, e_183_123, e_183_124, e_183_126, e_183_129, e_183_130, e_183_131, e_183_134, e_183_135, e_183_137, e_183_140, e_183_143, e_183_144, e_183_147, e_183_150, e_183_151, e_183_152, e_183_153, e_183_154, e_183_157, e_183_159, e_183_162, e_183_164, e_183_165, e_183_168, e_183_169, Option.bind_some, Option.bind_none, m_kt, m_kn, Option.toList_some, Option.toList_none, List.nil_append, List.cons_append, List.append_nil, ltn, ite_not, ↓reduceIte, true_or, or_true, nP1, oI_s, oI_n, bI_f, bI_t, i1_0, i0_0, Bool.false_eq_true, not_true_eq_false, not_false_eq_true, Zisc R, s1, sign_ev O (e + 5) R x2, z6, sign_ev O (e + 5) R sx, z7', sb_sb, s2, z01]
        | inr y =>
          rw [e2] at s2
          obtain ⟨b2, s2⟩ := s2
          obtain ⟨y1, y2, y3, -⟩ := suS_ok _ y (by omega) e2
          refine ⟨b2, ?_⟩
          simp only [wrM_app, List.length_append, List.length_cons, List.length_nil, Nat.zero_add, ← Nat.add_assoc]
          simp only [e_183_0, e_183_1, e_183_3, e_183_6, e_183_9, e_183_10, e_183_13, e_183_15, e_183_18, e_183_19, e_183_20, e_183_21, e_183_22, e_183_25, e_183_26, e_183_27, e_183_30, e_183_31, e_183_34, e_183_37, e_183_38, e_183_39, e_183_40, e_183_41, e_183_44, e_183_45, e_183_46, e_183_49, e_183_50, e_183_52, e_183_55, e_183_56, e_183_57, e_183_59, e_183_62, e_183_65, e_183_66, e_183_69, e_183_71, e_183_74, e_183_75, e_183_76, e_183_77, e_183_78, e_183_81, e_183_82, e_183_83, e_183_86, e_183_87, e_183_90, e_183_93, e_183_94, e_183_95, e_183_96, e_183_97, e_183_100, e_183_101, e_183_102, e_183_105, e_183_106, e_183_108, e_183_109, e_183_112, e_183_113, e_183_114, e_183_115, e_183_118, e_183_121, e_183_122, e_183_123, e_183_124, e_183_126, e_183_129, e_183_130, e_183_131, e_183_134, e_183_135, e_183_137, e_183_140, e_183_143, e_183_144, e_183_147, e_183_150, e_183_151, e_183_152, e_183_153, e_183_154, e_183_157, e_183_159, e_183_162, e_183_164, e_183_165, e_183_168, e_183_169, Option.bind_some, Option.bind_none, m_kt, m_kn, Option.toList_some, Option.toList_none, List.nil_append, List.cons_append, List.append_nil, ltn, ite_not, ↓reduceIte, true_or, or_true, nP1, oI_s, oI_n, bI_f, bI_t, i1_0, i0_0, Bool.false_eq_true, not_true_eq_false, not_false_eq_true, Zisc R, s1, sign_ev O (e + 5) R x2, z6, sign_ev O (e + 5) R sx, z7', sb_sb, s2, emits_ev O (e + 7) R (show s + x.2.length + y.2.length < 400 by omega), o01]
          rfl
    · have zl := (sg_lt z6).1
      have s2 := sumM_ev (b := nI (sb B l x.1)) (dp := dp) (p := sb B l x.1 + 1) (s := s + x.2.length) (V := wrM V s x.2) O e X R (by omega) (by omega)
      simp only [↓reduceIte]
      cases e2 : suS B l (sb B l x.1 + 1) with
      | inl f =>
        rw [e2] at s2
        obtain ⟨p', dp', s', V', s2, s2'⟩ := s2
        refine ⟨p', dp', s', V', ?_, fun i hi => by rw [s2' i hi, wrM_lo _ _ _ (by omega)]⟩
        simp only [e_183_0, e_183_1, e_183_3, e_183_6, e_183_9, e_183_10, e_183_13, e_183_15, e_183_18, e_183_19, e_183_20, e_183_21, e_183_22, e_183_25, e_183_26, e_183_27, e_183_30, e_183_31, e_183_34, e_183_37, e_183_38, e_183_39, e_183_40, e_183_41, e_183_44, e_183_45, e_183_46, e_183_49, e_183_50, e_183_52, e_183_55, e_183_56, e_183_57, e_183_59, e_183_62, e_183_65, e_183_66, e_183_69, e_183_71, e_183_74, e_183_75, e_183_76, e_183_77, e_183_78, e_183_81, e_183_82, e_183_83, e_183_86, e_183_87, e_183_90, e_183_93, e_183_94, e_183_95, e_183_96, e_183_97, e_183_100, e_183_101, e_183_102, e_183_105, e_183_106, e_183_108, e_183_109, e_183_112, e_183_113, e_183_114, e_183_115, e_183_118, e_183_121, e_183_122, e_183_123, e_183_124, e_183_126, e_183_129, e_183_130, e_183_131, e_183_134, e_183_135, e_183_137, e_183_140, e_183_143, e_183_144, e_183_147, e_183_150, e_183_151, e_183_152, e_183_153, e_183_154, e_183_157, e_183_159, e_183_162, e_183_164, e_183_165, e_183_168, e_183_169, Option.bind_some, Option.bind_none, m_kt, m_kn, Option.toList_some, Option.toList_none, List.nil_append, List.cons_append, List.append_nil, ltn, ite_not, ↓reduceIte, true_or, or_true, nP1, oI_s, oI_n, bI_f, bI_t, i1_0, i0_0, Bool.false_eq_true, not_true_eq_false, not_false_eq_true, Zisc R, s1, sign_ev O (e + 5) R x2, z6, s2, z01]
      | inr y =>
        rw [e2] at s2
        obtain ⟨b2, s2⟩ := s2
        obtain ⟨y1, y2, y3, -⟩ := suS_ok _ y (by omega) e2
        refine ⟨b2, ?_⟩
        simp only [wrM_app, List.length_append, List.length_cons, List.length_nil, Nat.zero_add, ← Nat.add_assoc]
        simp only [e_183_0, e_183_1, e_183_3, e_183_6, e_183_9, e_183_10, e_183_13, e_183_15, e_183_18, e_183_19, e_183_20, e_183_21, e_183_22, e_183_25, e_183_26, e_183_27, e_183_30, e_183_31, e_183_34, e_183_37, e_183_38, e_183_39, e_183_40, e_183_41, e_183_44, e_183_45, e_183_46, e_183_49, e_183_50, e_183_52, e_183_55, e_183_56, e_183_57, e_183_59, e_183_62, e_183_65, e_183_66, e_183_69, e_183_71, e_183_74, e_183_75, e_183_76, e_183_77, e_183_78, e_183_81, e_183_82, e_183_83, e_183_86, e_183_87, e_183_90, e_183_93, e_183_94, e_183_95, e_183_96, e_183_97, e_183_100, e_183_101, e_183_102, e_183_105, e_183_106, e_183_108, e_183_109, e_183_112, e_183_113, e_183_114, e_183_115, e_183_118, e_183_121, e_183_122, e_183_123, e_183_124, e_183_126, e_183_129, e_183_130, e_183_131, e_183_134, e_183_135, e_183_137, e_183_140, e_183_143, e_183_144, e_183_147, e_183_150, e_183_151, e_183_152, e_183_153, e_183_154, e_183_157, e_183_159, e_183_162, e_183_164, e_183_165, e_183_168, e_183_169, Option.bind_some, Option.bind_none, m_kt, m_kn, Option.toList_some, Option.toList_none, List.nil_append, List.cons_append, List.append_nil, ltn, ite_not, ↓reduceIte, true_or, or_true, nP1, oI_s, oI_n, bI_f, bI_t, i1_0, i0_0, Bool.false_eq_true, not_true_eq_false, not_false_eq_true, Zisc R, s1, sign_ev O (e + 5) R x2, z6, s2, emits_ev O (e + 7) R (show s + x.2.length + y.2.length < 400 by omega), o01]
        rfl
theorem n6eq {k : Nat} (hk : k < 6) : (nI k = (6 : Int32)) = False := by
  rw [show (6 : Int32) = nI 6 from rfl, nEq (by omega) (by omega)]
  exact propext ⟨fun q => by omega, False.elim⟩
theorem levM_ev (O : mO) (X : MTL O) (R : RZ h m l B) : ∀ r, r ≤ 6 → ∀ e, 3 * r ≤ e → HM O (e + 8) h m l (nI (6 - r)) (lev B l r) := by
  have hl := R.2.2.2.2
  have X0 := X
  obtain ⟨-, -, -, -, xno, -⟩ := X
  intro r
  induction r with
  | zero =>
    intro hr e he p s V b hp' hs
    have sp := sb_le (B := B) hp'
    have sq := sb_ge B l p
    show MC _ h m (nI (6 - 0)) s V (atS B l none p)
    unfold atS
    cases z1 : wd B l (sb B l p) w_not
    · cases z2 : sg B l p 40
      · simp only [Bool.false_eq_true, ↓reduceIte]
        have r := twoM_ev (b := nI (sb B l p)) (dp := nI (6 - 0)) (V := V) O e X0 R (p := sb B l p) (s := s) sp (by omega)
        simp only [e_183_0, e_183_1, e_183_3, e_183_6, e_183_9, e_183_10, e_183_13, e_183_15, e_183_18, e_183_19, e_183_20, e_183_21, e_183_22, e_183_25, e_183_26, e_183_27, e_183_30, e_183_31, e_183_34, e_183_37, e_183_38, e_183_39, e_183_40, e_183_41, e_183_44, e_183_45, e_183_46, e_183_49, e_183_50, e_183_52, e_183_55, e_183_56, e_183_57, e_183_59, e_183_62, e_183_65, e_183_66, e_183_69, e_183_71, e_183_74, e_183_75, e_183_76, e_183_77, e_183_78, e_183_81, e_183_82, e_183_83, e_183_86, e_183_87, e_183_90, e_183_93, e_183_94, e_183_95, e_183_96, e_183_97, e_183_100, e_183_101, e_183_102, e_183_105, e_183_106, e_183_108, e_183_109, e_183_112, e_183_113, e_183_115, e_183_118, e_183_121, e_183_122, e_183_123, e_183_124, e_183_126, e_183_129, e_183_130, e_183_131, e_183_134, e_183_135, e_183_137, e_183_140, e_183_143, e_183_144, e_183_147, e_183_150, e_183_151, e_183_152, e_183_153, e_183_154, e_183_157, e_183_159, e_183_162, e_183_164, e_183_165, e_183_168, e_183_169, Option.bind_some, Option.bind_none, m_kt, m_kn, Option.toList_some, Option.toList_none, List.nil_append, List.cons_append, List.append_nil, ltn, ite_not, ↓reduceIte, true_or, or_true, nP1, oI_s, oI_n, bI_f, bI_t, i1_0, i0_0, Bool.false_eq_true, not_true_eq_false, not_false_eq_true, Zisc R, sign_ev O (e + 5) R hp', z2, passes_ev O (e + 1) R sp xno l_not, sb_sb, z1]
        exact r
      · refine ⟨nI (sb B l p + 1), nI (6 - 0), nI s, V, ?_, fun i hi => rfl⟩
        simp only [e_183_0, e_183_1, e_183_3, e_183_6, e_183_9, e_183_10, e_183_13, e_183_15, e_183_18, e_183_19, e_183_20, e_183_21, e_183_22, e_183_25, e_183_26, e_183_27, e_183_30, e_183_31, e_183_34, e_183_37, e_183_38, e_183_39, e_183_40, e_183_41, e_183_44, e_183_45, e_183_46, e_183_49, e_183_50, e_183_52, e_183_55, e_183_56, e_183_57, e_183_59, e_183_62, e_183_65, e_183_66, e_183_69, e_183_71, e_183_74, e_183_75, e_183_76, e_183_77, e_183_78, e_183_81, e_183_82, e_183_83, e_183_86, e_183_87, e_183_90, e_183_93, e_183_94, e_183_95, e_183_96, e_183_97, e_183_100, e_183_101, e_183_102, e_183_105, e_183_106, e_183_108, e_183_109, e_183_112, e_183_113, e_183_115, e_183_118, e_183_121, e_183_122, e_183_123, e_183_124, e_183_126, e_183_129, e_183_130, e_183_131, e_183_134, e_183_135, e_183_137, e_183_140, e_183_143, e_183_144, e_183_147, e_183_150, e_183_151, e_183_152, e_183_153, e_183_154, e_183_157, e_183_159, e_183_162, e_183_164, e_183_165, e_183_168, e_183_169, Option.bind_some, Option.bind_none, m_kt, m_kn, Option.toList_some, Option.toList_none, List.nil_append, List.cons_append, List.append_nil, ltn, ite_not, ↓reduceIte, true_or, or_true, nP1, oI_s, oI_n, bI_f, bI_t, i1_0, i0_0, Bool.false_eq_true, not_true_eq_false, not_false_eq_true, Zisc R, sign_ev O (e + 5) R hp', z2, gz12 R, (show (nI (6 - 0) = (6 : Int32)) = True by decide), z01]
    · have z2 := not_sg (q := p) rfl z1
      refine ⟨nI (sb B l p + 3), nI (6 - 0), nI s, V, ?_, fun i hi => rfl⟩
      simp only [e_183_0, e_183_1, e_183_3, e_183_6, e_183_9, e_183_10, e_183_13, e_183_15, e_183_18, e_183_19, e_183_20, e_183_21, e_183_22, e_183_25, e_183_26, e_183_27, e_183_30, e_183_31, e_183_34, e_183_37, e_183_38, e_183_39, e_183_40, e_183_41, e_183_44, e_183_45, e_183_46, e_183_49, e_183_50, e_183_52, e_183_55, e_183_56, e_183_57, e_183_59, e_183_62, e_183_65, e_183_66, e_183_69, e_183_71, e_183_74, e_183_75, e_183_76, e_183_77, e_183_78, e_183_81, e_183_82, e_183_83, e_183_86, e_183_87, e_183_90, e_183_93, e_183_94, e_183_95, e_183_96, e_183_97, e_183_100, e_183_101, e_183_102, e_183_105, e_183_106, e_183_108, e_183_109, e_183_112, e_183_113, e_183_115, e_183_118, e_183_121, e_183_122, e_183_123, e_183_124, e_183_126, e_183_129, e_183_130, e_183_131, e_183_134, e_183_135, e_183_137, e_183_140, e_183_143, e_183_144, e_183_147, e_183_150, e_183_151, e_183_152, e_183_153, e_183_154, e_183_157, e_183_159, e_183_162, e_183_164, e_183_165, e_183_168, e_183_169, Option.bind_some, Option.bind_none, m_kt, m_kn, Option.toList_some, Option.toList_none, List.nil_append, List.cons_append, List.append_nil, ltn, ite_not, ↓reduceIte, true_or, or_true, nP1, oI_s, oI_n, bI_f, bI_t, i1_0, i0_0, Bool.false_eq_true, not_true_eq_false, not_false_eq_true, Zisc R, sign_ev O (e + 5) R hp', z2, passes_ev O (e + 1) R sp xno l_not, sb_sb, z1, (show w_not.length = 3 from rfl), gz12 R, (show (nI (6 - 0) = (6 : Int32)) = True by decide), z01]
  | succ r ih =>
    intro hr e he p s V b hp' hs
    obtain ⟨e', rfl⟩ : ∃ e', e = e' + 3 := ⟨e - 3, by omega⟩
    have sp := sb_le (B := B) hp'
    have sq := sb_ge B l p
    have c6 := n6eq (k := 6 - (r + 1)) (by omega)
    have d6 : nI (6 - (r + 1)) + 1 = nI (6 - r) := by rw [nP1, show 6 - (r + 1) + 1 = 6 - r by omega]
    have m6 : nI (6 - r) - 1 = nI (6 - (r + 1)) := by rw [← d6, nP1, nI_pred]
    have ia := ih (by omega) (e' + 2) (by omega)
    have ic := ih (by omega) e' (by omega)
    have G := lev_ok (B := B) (l := l) r
    show MC _ h m (nI (6 - (r + 1))) s V (atS B l (some (lev B l r)) p)
    unfold atS
    cases z1 : wd B l (sb B l p) w_not
    · cases z2 : sg B l p 40
      · simp only [Bool.false_eq_true, ↓reduceIte]
        have r := twoM_ev (b := nI (sb B l p)) (dp := nI (6 - (r + 1))) (V := V) O (e' + 3) X0 R (p := sb B l p) (s := s) sp (by omega)
        simp only [e_183_0, e_183_1, e_183_3, e_183_6, e_183_9, e_183_10, e_183_13, e_183_15, e_183_18, e_183_19, e_183_20, e_183_21, e_183_22, e_183_25, e_183_26, e_183_27, e_183_30, e_183_31, e_183_34, e_183_37, e_183_38, e_183_39, e_183_40, e_183_41, e_183_44, e_183_45, e_183_46, e_183_49, e_183_50, e_183_52, e_183_55, e_183_56, e_183_57, e_183_59, e_183_62, e_183_65, e_183_66, e_183_69, e_183_71, e_183_74, e_183_75, e_183_76, e_183_77, e_183_78, e_183_81, e_183_82, e_183_83, e_183_86, e_183_87, e_183_90, e_183_93, e_183_94, e_183_95, e_183_96, e_183_97, e_183_100, e_183_101, e_183_102, e_183_105, e_183_106, e_183_108, e_183_109, e_183_112, e_183_113, e_183_115, e_183_118, e_183_121, e_183_122, e_183_123, e_183_124, e_183_126, e_183_129, e_183_130, e_183_131, e_183_134, e_183_135, e_183_137, e_183_140, e_183_143, e_183_144, e_183_147, e_183_150, e_183_151, e_183_152, e_183_153, e_183_154, e_183_157, e_183_159, e_183_162, e_183_164, e_183_165, e_183_168, e_183_169, Option.bind_some, Option.bind_none, m_kt, m_kn, Option.toList_some, Option.toList_none, List.nil_append, List.cons_append, List.append_nil, ltn, ite_not, ↓reduceIte, true_or, or_true, nP1, oI_s, oI_n, bI_f, bI_t, i1_0, i0_0, Bool.false_eq_true, not_true_eq_false, not_false_eq_true, Zisc R, sign_ev O (e' + 8) R hp', z2, passes_ev O (e' + 4) R sp xno l_not, sb_sb, z1]
        exact r
      · have zl := (sg_lt z2).1
        have rc := conM_ev (b := nI (sb B l p)) (p := sb B l p + 1) (s := s) (V := V) O e' X0 R G ic (by omega) (by omega)
        simp only [Bool.false_eq_true, ↓reduceIte]
        cases e1 : cnS B l (lev B l r) (sb B l p + 1) with
        | inl f =>
          rw [e1] at rc
          obtain ⟨p', dp', s', V', rc, rc'⟩ := rc
          refine ⟨p', dp', s', V', ?_, rc'⟩
          simp only [e_183_0, e_183_1, e_183_3, e_183_6, e_183_9, e_183_10, e_183_13, e_183_15, e_183_18, e_183_19, e_183_20, e_183_21, e_183_22, e_183_25, e_183_26, e_183_27, e_183_30, e_183_31, e_183_34, e_183_37, e_183_38, e_183_39, e_183_40, e_183_41, e_183_44, e_183_45, e_183_46, e_183_49, e_183_50, e_183_52, e_183_55, e_183_56, e_183_57, e_183_59, e_183_62, e_183_65, e_183_66, e_183_69, e_183_71, e_183_74, e_183_75, e_183_76, e_183_77, e_183_78, e_183_81, e_183_82, e_183_83, e_183_86, e_183_87, e_183_90, e_183_93, e_183_94, e_183_95, e_183_96, e_183_97, e_183_100, e_183_101, e_183_102, e_183_105, e_183_106, e_183_108, e_183_109, e_183_112, e_183_113, e_183_115, e_183_118, e_183_121, e_183_122, e_183_123, e_183_124, e_183_126, e_183_129, e_183_130, e_183_131, e_183_134, e_183_135, e_183_137, e_183_140, e_183_143, e_183_144, e_183_147, e_183_150, e_183_151, e_183_152, e_183_153, e_183_154, e_183_157, e_183_159, e_183_162, e_183_164, e_183_165, e_183_168, e_183_169, Option.bind_some, Option.bind_none, m_kt, m_kn, Option.toList_some, Option.toList_none, List.nil_append, List.cons_append, List.append_nil, ltn, ite_not, ↓reduceIte, true_or, or_true, nP1, oI_s, oI_n, bI_f, bI_t, i1_0, i0_0, Bool.false_eq_true, not_true_eq_false, not_false_eq_true, Zisc R, sign_ev O (e' + 8) R hp', z2, gz12 R, c6, cat_ref, d6, pz12 R, rc, z01]
        | inr x =>
          rw [e1] at rc
          obtain ⟨b1, rc⟩ := rc
          obtain ⟨x1, x2, x3, -⟩ := cnS_ok G _ x (by omega) e1
          have sx := sb_le (B := B) x2
          simp only [sbd_r]
          cases z3 : sg B l x.1 41
          · refine ⟨nI (sb B l x.1), nI (6 - (r + 1)), nI (s + x.2.length), wrM V s x.2, ?_, fun i hi => wrM_lo _ _ _ (by omega)⟩
            simp only [e_183_0, e_183_1, e_183_3, e_183_6, e_183_9, e_183_10, e_183_13, e_183_15, e_183_18, e_183_19, e_183_20, e_183_21, e_183_22, e_183_25, e_183_26, e_183_27, e_183_30, e_183_31, e_183_34, e_183_37, e_183_38, e_183_39, e_183_40, e_183_41, e_183_44, e_183_45, e_183_46, e_183_49, e_183_50, e_183_52, e_183_55, e_183_56, e_183_57, e_183_59, e_183_62, e_183_65, e_183_66, e_183_69, e_183_71, e_183_74, e_183_75, e_183_76, e_183_77, e_183_78, e_183_81, e_183_82, e_183_83, e_183_86, e_183_87, e_183_90, e_183_93, e_183_94, e_183_95, e_183_96, e_183_97, e_183_100, e_183_101, e_183_102, e_183_105, e_183_106, e_183_108, e_183_109, e_183_112, e_183_113, e_183_115, e_183_118, e_183_121, e_183_122, e_183_123, e_183_124, e_183_126, e_183_129, e_183_130, e_183_131, e_183_134, e_183_135, e_183_137, e_183_140, e_183_143, e_183_144, e_183_147, e_183_150, e_183_151, e_183_152, e_183_153, e_183_154, e_183_157, e_183_159, e_183_162, e_183_164, e_183_165, e_183_168, e_183_169, Option.bind_some, Option.bind_none, m_kt, m_kn, Option.toList_some, Option.toList_none, List.nil_append, List.cons_append, List.append_nil, ltn, ite_not, ↓reduceIte, true_or, or_true, nP1, oI_s, oI_n, bI_f, bI_t, i1_0, i0_0, Bool.false_eq_true, not_true_eq_false, not_false_eq_true, Zisc R, sign_ev O (e' + 8) R hp', z2, gz12 R, c6, cat_ref, d6, pz12 R, rc, m6, sign_ev O (e' + 8) R x2, z3, z01]
          · refine ⟨nI (sb B l x.1), ?_⟩
            simp only [e_183_0, e_183_1, e_183_3, e_183_6, e_183_9, e_183_10, e_183_13, e_183_15, e_183_18, e_183_19, e_183_20, e_183_21, e_183_22, e_183_25, e_183_26, e_183_27, e_183_30, e_183_31, e_183_34, e_183_37, e_183_38, e_183_39, e_183_40, e_183_41, e_183_44, e_183_45, e_183_46, e_183_49, e_183_50, e_183_52, e_183_55, e_183_56, e_183_57, e_183_59, e_183_62, e_183_65, e_183_66, e_183_69, e_183_71, e_183_74, e_183_75, e_183_76, e_183_77, e_183_78, e_183_81, e_183_82, e_183_83, e_183_86, e_183_87, e_183_90, e_183_93, e_183_94, e_183_95, e_183_96, e_183_97, e_183_100, e_183_101, e_183_102, e_183_105, e_183_106, e_183_108, e_183_109, e_183_112, e_183_113, e_183_115, e_183_118, e_183_121, e_183_122, e_183_123, e_183_124, e_183_126, e_183_129, e_183_130, e_183_131, e_183_134, e_183_135, e_183_137, e_183_140, e_183_143, e_183_144, e_183_147, e_183_150, e_183_151, e_183_152, e_183_153, e_183_154, e_183_157, e_183_159, e_183_162, e_183_164, e_183_165, e_183_168, e_183_169, Option.bind_some, Option.bind_none, m_kt, m_kn, Option.toList_some, Option.toList_none, List.nil_append, List.cons_append, List.append_nil, ltn, ite_not, ↓reduceIte, true_or, or_true, nP1, oI_s, oI_n, bI_f, bI_t, i1_0, i0_0, Bool.false_eq_true, not_true_eq_false, not_false_eq_true, Zisc R, sign_ev O (e' + 8) R hp', z2, gz12 R, c6, cat_ref, d6, pz12 R, rc, m6, sign_ev O (e' + 8) R x2, z3, o01]
    · have z2 := not_sg (q := p) rfl z1
      have wl := (wd_le l_not z1).2
      rw [show w_not.length = 3 from rfl] at wl
      have ra := ia (sb B l p + 3) s V (nI (sb B l p)) wl (by omega)
      simp only [↓reduceIte]
      cases e1 : lev B l r (sb B l p + 3) with
      | inl f =>
        rw [e1] at ra
        obtain ⟨p', dp', s', V', ra, ra'⟩ := ra
        refine ⟨p', dp', s', V', ?_, ra'⟩
        rw [e_183_0]
        simp only [e_183_1, e_183_3, e_183_6, e_183_9, e_183_10, e_183_13, e_183_15, e_183_18, e_183_19, e_183_20, e_183_21, e_183_22, e_183_25, e_183_26, e_183_27, e_183_30, e_183_31, e_183_34, e_183_37, e_183_38, e_183_39, e_183_40, e_183_41, e_183_44, e_183_45, e_183_46, e_183_49, e_183_50, e_183_52, e_183_55, e_183_56, e_183_57, e_183_59, e_183_62, e_183_65, e_183_66, e_183_69, e_183_71, e_183_74, e_183_75, e_183_76, e_183_77, e_183_78, e_183_81, e_183_82, e_183_83, e_183_86, e_183_87, e_183_90, e_183_93, e_183_94, e_183_95, e_183_96, e_183_97, e_183_100, e_183_101, e_183_102, e_183_105, e_183_106, e_183_108, e_183_109, e_183_112, e_183_113, e_183_115, e_183_118, e_183_121, e_183_122, e_183_123, e_183_124, e_183_126, e_183_129, e_183_130, e_183_131, e_183_134, e_183_135, e_183_137, e_183_140, e_183_143, e_183_144, e_183_147, e_183_150, e_183_151, e_183_152, e_183_153, e_183_154, e_183_157, e_183_159, e_183_162, e_183_164, e_183_165, e_183_168, e_183_169, Option.bind_some, Option.bind_none, m_kt, m_kn, Option.toList_some, Option.toList_none, List.nil_append, List.cons_append, List.append_nil, ltn, ite_not, ↓reduceIte, true_or, or_true, nP1, oI_s, oI_n, bI_f, bI_t, i1_0, i0_0, Bool.false_eq_true, not_true_eq_false, not_false_eq_true, Zisc R, sign_ev O (e' + 8) R hp', z2, passes_ev O (e' + 4) R sp xno l_not, sb_sb, z1, (show w_not.length = 3 from rfl), gz12 R, c6, cat_ref, d6, pz12 R, ra, z01]
      | inr x =>
        rw [e1] at ra
        obtain ⟨b1, ra⟩ := ra
        obtain ⟨x1, x2, x3, -⟩ := G _ x wl e1
        refine ⟨b1, ?_⟩
        simp only [wrM_app, List.length_append, List.length_cons, List.length_nil, Nat.zero_add, ← Nat.add_assoc]
        rw [e_183_0]
        simp only [e_183_1, e_183_3, e_183_6, e_183_9, e_183_10, e_183_13, e_183_15, e_183_18, e_183_19, e_183_20, e_183_21, e_183_22, e_183_25, e_183_26, e_183_27, e_183_30, e_183_31, e_183_34, e_183_37, e_183_38, e_183_39, e_183_40, e_183_41, e_183_44, e_183_45, e_183_46, e_183_49, e_183_50, e_183_52, e_183_55, e_183_56, e_183_57, e_183_59, e_183_62, e_183_65, e_183_66, e_183_69, e_183_71, e_183_74, e_183_75, e_183_76, e_183_77, e_183_78, e_183_81, e_183_82, e_183_83, e_183_86, e_183_87, e_183_90, e_183_93, e_183_94, e_183_95, e_183_96, e_183_97, e_183_100, e_183_101, e_183_102, e_183_105, e_183_106, e_183_108, e_183_109, e_183_112, e_183_113, e_183_115, e_183_118, e_183_121, e_183_122, e_183_123, e_183_124, e_183_126, e_183_129, e_183_130, e_183_131, e_183_134, e_183_135, e_183_137, e_183_140, e_183_143, e_183_144, e_183_147, e_183_150, e_183_151, e_183_152, e_183_153, e_183_154, e_183_157, e_183_159, e_183_162, e_183_164, e_183_165, e_183_168, e_183_169, Option.bind_some, Option.bind_none, m_kt, m_kn, Option.toList_some, Option.toList_none, List.nil_append, List.cons_append, List.append_nil, ltn, ite_not, ↓reduceIte, true_or, or_true, nP1, oI_s, oI_n, bI_f, bI_t, i1_0, i0_0, Bool.false_eq_true, not_true_eq_false, not_false_eq_true, Zisc R, sign_ev O (e' + 8) R hp', z2, passes_ev O (e' + 4) R sp xno l_not, sb_sb, z1, (show w_not.length = 3 from rfl), gz12 R, c6, cat_ref, d6, pz12 R, ra, m6, emits_ev O (e' + 10) R (show s + x.2.length < 400 by omega), o01]
        rfl
end LawMA
