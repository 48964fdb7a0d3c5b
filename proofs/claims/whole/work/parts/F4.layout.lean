/-! A city is laid out -/
def hx (h : mH) (a : Nat) (n : Nat → Int32) : mH := (h.1.set a (oC a n), h.2)
section LayOut
variable {h : mH} {a : Nat} {n : Nat → Int32} {F : Nat → Nat → Int32}
theorem hx_id (A : PX h a n F) : hx h a n = h := by unfold hx; rw [hset A.1]
theorem hx_px (A : PX h a n F) (n' : Nat → Int32) : PX (hx h a n') a n' F := ⟨hget A.1, fun k hk => (hne (by omega)).trans (A.2 k hk)⟩
theorem hx_o (n' : Nat → Int32) : out (CB a) h (hx h a n') := out.st h _ (by unfold CB; omega)
theorem px0 (A : PX h a n F) (n' : Nat → Int32) (x : Int32) : m_pf (hx h a n') a 0 0 (.int x) = some (hx h a (upd n' 0 x)) := by rw [pX0 (hx_px A n')]; unfold hx; rw [List.set_set]
theorem px1 (A : PX h a n F) (n' : Nat → Int32) (x : Int32) : m_pf (hx h a n') a 0 1 (.int x) = some (hx h a (upd n' 1 x)) := by rw [pX1 (hx_px A n')]; unfold hx; rw [List.set_set]
theorem px2 (A : PX h a n F) (n' : Nat → Int32) (x : Int32) : m_pf (hx h a n') a 0 2 (.int x) = some (hx h a (upd n' 2 x)) := by rw [pX2 (hx_px A n')]; unfold hx; rw [List.set_set]
theorem px3 (A : PX h a n F) (n' : Nat → Int32) (x : Int32) : m_pf (hx h a n') a 0 3 (.int x) = some (hx h a (upd n' 3 x)) := by rw [pX3 (hx_px A n')]; unfold hx; rw [List.set_set]
theorem px4 (A : PX h a n F) (n' : Nat → Int32) (x : Int32) : m_pf (hx h a n') a 0 4 (.int x) = some (hx h a (upd n' 4 x)) := by rw [pX4 (hx_px A n')]; unfold hx; rw [List.set_set]
theorem px5 (A : PX h a n F) (n' : Nat → Int32) (x : Int32) : m_pf (hx h a n') a 0 5 (.int x) = some (hx h a (upd n' 5 x)) := by rw [pX5 (hx_px A n')]; unfold hx; rw [List.set_set]
theorem px12 (A : PX h a n F) (n' : Nat → Int32) (x : Int32) : m_pf (hx h a n') a 0 12 (.int x) = some (hx h a (upd n' 12 x)) := by rw [pX12 (hx_px A n')]; unfold hx; rw [List.set_set]
theorem PX_fl (O : mO) (d : Nat) (A : PX h a n F) (k : Nat) (hk : k < 8) (x : Int32) : ∃ h', ev O d 262 0 [.ref (a + 1 + k), .int x, mJ, mJ] [] h = some (.inl none, h') ∧ PX h' a n (uF F k (fl (szC k) x (F k))) ∧ out (CB a) h h' := by
  have sz : szC k < 2 ^ 31 := by unfold szC; split <;> (try split) <;> decide
  refine ⟨_, fill_i O d _ _ x _ h sz (A.2 k hk), ⟨(hne (by omega)).trans A.1, fun j hj => ?_⟩, out.st h _ (by unfold CB; omega)⟩
  by_cases z : j = k
  · subst z
    unfold uF
    rw [if_pos rfl]
    exact hget (A.2 j hj)
  · unfold uF
    rw [if_neg z]
    exact (hne (by omega)).trans (A.2 j hj)
def nLy (n : Nat → Int32) (w g : Nat) : Nat → Int32 := upd (upd (upd (upd (upd (upd n 0 (nI w)) 1 (nI g)) 2 (nI (w * g))) 3 (allI w g)) 4 (lEd w g)) 5 (rEd w g)
def fLy (F : Nat → Nat → Int32) : Nat → Nat → Int32 := uF (uF (uF (uF (uF (uF (uF F 0 (fl 30 4 (F 0))) 1 (fl 30 10 (F 1))) 2 (fl 30 0 (F 2))) 3 (fl 30 0 (F 3))) 4 (fl 30 0 (F 4))) 5 (fl 30 0 (F 5))) 7 (fl 180 0 (F 7))
theorem layOut_ev (O : mO) (d : Nat) (A : PX h a n F) {w g : Nat} (hw : w ≤ 6) (hg : g ≤ 5) : ∃ h', ev O (d + 1) 1 0 [.ref a, .int (nI w), .int (nI g), mJ] [] h = some (.inl none, h') ∧ PX h' a (upd (nLy n w g) 12 0) (fLy F) ∧ out (CB a) h h' := by
  let n4 : Nat → Int32 := upd (upd (upd (upd n 0 (nI w)) 1 (nI g)) 2 (nI (w * g))) 3 (allI w g)
  have e0 : ev O (d + 1) 1 0 [.ref a, .int (nI w), .int (nI g), mJ] [] h = ev O (d + 1) 1 36 [.ref a, .int (nI w), .int (nI g), .int 0] [] (hx h a (upd n4 4 0)) := by
    conv => lhs; rw [← hx_id A]
    simp only [e_1_0, e_1_1, e_1_2, e_1_5, e_1_6, e_1_7, e_1_10, e_1_11, e_1_12, e_1_13, e_1_14, e_1_17, e_1_18, e_1_19, e_1_20, e_1_23, e_1_24, e_1_25, e_1_26, e_1_29, e_1_30, e_1_31, e_1_34, e_1_35, e_1_37, e_1_38, e_1_41, e_1_42, e_1_43, e_1_46, e_1_47, e_1_48, e_1_49, e_1_50, e_1_51, e_1_52, e_1_55, e_1_58, e_1_61, e_1_62, e_1_63, e_1_66, e_1_67, e_1_68, e_1_69, e_1_70, e_1_73, e_1_74, e_1_77, e_1_78, e_1_81, e_1_82, e_1_85, e_1_87, e_1_90, e_1_91, e_1_94, e_1_95, e_1_98, e_1_99, e_1_102, e_1_103, e_1_106, e_1_107, e_1_110, e_1_111, e_1_114, e_1_115, e_1_118, e_1_119, e_1_122, e_1_123, e_1_124, e_1_127, e_1_128, e_1_131, e_1_132, e_1_135, Option.bind_some, Option.bind_none, m_kt, m_kn, Option.toList_some, Option.toList_none, List.nil_append, List.cons_append, List.append_nil, ltn, ite_not, ↓reduceIte, true_or, or_true, nP1, oI_s, oI_n, bI_f, bI_t, i1_0, i0_0, Bool.false_eq_true, not_true_eq_false, not_false_eq_true, px0 A, px1 A, px2 A, px3 A, px4 A, gX2 (hx_px A _), pk_mul, upd_s]
    rfl
  have e := lp_run (F := fun y s => ev O (d + 1) 1 36 [.ref a, .int (nI w), .int (nI g), .int (nI y)] [] (hx h a (upd n4 4 s))) (f := fun y s => s ||| shl1 (w * y)) (n := g) (fun y s hy => by
    have c1 : ¬ nI g ≤ nI y := nI_ge hy (by omega)
    rw [e_1_36]
    simp only [e_1_0, e_1_1, e_1_2, e_1_5, e_1_6, e_1_7, e_1_10, e_1_11, e_1_12, e_1_13, e_1_14, e_1_17, e_1_18, e_1_19, e_1_20, e_1_23, e_1_24, e_1_25, e_1_26, e_1_29, e_1_30, e_1_31, e_1_34, e_1_35, e_1_37, e_1_38, e_1_41, e_1_42, e_1_43, e_1_46, e_1_47, e_1_48, e_1_49, e_1_50, e_1_51, e_1_52, e_1_55, e_1_58, e_1_61, e_1_62, e_1_63, e_1_66, e_1_67, e_1_68, e_1_69, e_1_70, e_1_73, e_1_74, e_1_77, e_1_78, e_1_81, e_1_82, e_1_85, e_1_87, e_1_90, e_1_91, e_1_94, e_1_95, e_1_98, e_1_99, e_1_102, e_1_103, e_1_106, e_1_107, e_1_110, e_1_111, e_1_114, e_1_115, e_1_118, e_1_119, e_1_122, e_1_123, e_1_124, e_1_127, e_1_128, e_1_131, e_1_132, e_1_135, Option.bind_some, Option.bind_none, m_kt, m_kn, Option.toList_some, Option.toList_none, List.nil_append, List.cons_append, List.append_nil, ltn, ite_not, ↓reduceIte, true_or, or_true, nP1, oI_s, oI_n, bI_f, bI_t, i1_0, i0_0, Bool.false_eq_true, not_true_eq_false, not_false_eq_true, c1, cat_ref, gX4 (hx_px A _), upd_s, pk_mul, px4 A, upd_upd]
    rfl) 0
  simp only [nI_0] at e
  have e1 : ev O (d + 1) 1 36 [.ref a, .int (nI w), .int (nI g), .int (nI g)] [] (hx h a (upd n4 4 (lEd w g))) = ev O (d + 1) 1 73 [.ref a, .int (nI w), .int (nI g), .int (nI g)] [] (hx h a (nLy n w g)) := by
    rw [e_1_36]
    simp only [e_1_0, e_1_1, e_1_2, e_1_5, e_1_6, e_1_7, e_1_10, e_1_11, e_1_12, e_1_13, e_1_14, e_1_17, e_1_18, e_1_19, e_1_20, e_1_23, e_1_24, e_1_25, e_1_26, e_1_29, e_1_30, e_1_31, e_1_34, e_1_35, e_1_37, e_1_38, e_1_41, e_1_42, e_1_43, e_1_46, e_1_47, e_1_48, e_1_49, e_1_50, e_1_51, e_1_52, e_1_55, e_1_58, e_1_61, e_1_62, e_1_63, e_1_66, e_1_67, e_1_68, e_1_69, e_1_70, e_1_74, e_1_77, e_1_78, e_1_81, e_1_82, e_1_85, e_1_87, e_1_90, e_1_91, e_1_94, e_1_95, e_1_98, e_1_99, e_1_102, e_1_103, e_1_106, e_1_107, e_1_110, e_1_111, e_1_114, e_1_115, e_1_118, e_1_119, e_1_122, e_1_123, e_1_124, e_1_127, e_1_128, e_1_131, e_1_132, e_1_135, Option.bind_some, Option.bind_none, m_kt, m_kn, Option.toList_some, Option.toList_none, List.nil_append, List.cons_append, List.append_nil, ltn, ite_not, ↓reduceIte, true_or, or_true, nP1, oI_s, oI_n, bI_f, bI_t, i1_0, i0_0, Bool.false_eq_true, not_true_eq_false, not_false_eq_true, Int32.le_refl, gX4 (hx_px A _), upd_s, px5 A]
    rfl
  have A0 := hx_px A (nLy n w g)
  obtain ⟨h1, f1, A1, o1⟩ := PX_fl O d A0 0 (by omega) 4
  obtain ⟨h2, f2, A2, o2⟩ := PX_fl O d A1 1 (by omega) 10
  obtain ⟨h3, f3, A3, o3⟩ := PX_fl O d A2 2 (by omega) 0
  obtain ⟨h4, f4, A4, o4⟩ := PX_fl O d A3 3 (by omega) 0
  obtain ⟨h5, f5, A5, o5⟩ := PX_fl O d A4 4 (by omega) 0
  obtain ⟨h6, f6, A6, o6⟩ := PX_fl O d A5 5 (by omega) 0
  have p6 : m_pf h6 a 0 12 (.int 0) = some (hx h6 a (upd (nLy n w g) 12 0)) := pX12 A6 0
  have A7 := hx_px A6 (upd (nLy n w g) 12 0)
  obtain ⟨h8, f8, A8, o8⟩ := PX_fl O d A7 7 (by omega) 0
  refine ⟨h8, ?_, A8, ((((((((hx_o _).tr1 o1).tr1 o2).tr1 o3).tr1 o4).tr1 o5).tr1 o6).tr1 (hx_o _)).tr1 o8⟩
  rw [e0, e]
  show ev O (d + 1) 1 36 [.ref a, .int (nI w), .int (nI g), .int (nI g)] [] (hx h a (upd n4 4 (lEd w g))) = _
  rw [e1]
  simp only [e_1_0, e_1_1, e_1_2, e_1_5, e_1_6, e_1_7, e_1_10, e_1_11, e_1_12, e_1_13, e_1_14, e_1_17, e_1_18, e_1_19, e_1_20, e_1_23, e_1_24, e_1_25, e_1_26, e_1_29, e_1_30, e_1_31, e_1_34, e_1_35, e_1_37, e_1_38, e_1_41, e_1_42, e_1_43, e_1_46, e_1_47, e_1_48, e_1_49, e_1_50, e_1_51, e_1_52, e_1_55, e_1_58, e_1_61, e_1_62, e_1_63, e_1_66, e_1_67, e_1_68, e_1_69, e_1_70, e_1_73, e_1_74, e_1_77, e_1_78, e_1_81, e_1_82, e_1_85, e_1_87, e_1_90, e_1_91, e_1_94, e_1_95, e_1_98, e_1_99, e_1_102, e_1_103, e_1_106, e_1_107, e_1_110, e_1_111, e_1_114, e_1_115, e_1_118, e_1_119, e_1_122, e_1_123, e_1_124, e_1_127, e_1_128, e_1_131, e_1_132, e_1_135, Option.bind_some, Option.bind_none, m_kt, m_kn, Option.toList_some, Option.toList_none, List.nil_append, List.cons_append, List.append_nil, ltn, ite_not, ↓reduceIte, true_or, or_true, nP1, oI_s, oI_n, bI_f, bI_t, i1_0, i0_0, Bool.false_eq_true, not_true_eq_false, not_false_eq_true, gX6 A0, f1, gX7 A1, f2, gX8 A2, f3, gX9 A3, f4, gX10 A4, f5, gX11 A5, f6, p6, gX15 A7, f8]
/-- the class's city after size -/
theorem lay_CA (O : mO) (d : Nat) {W : WD} (H : CA h a W) {w g : Int32} (hw : bd 1 6 w) (hg : bd 1 5 g) : ∃ h', ev O (d + 1) 1 0 [.ref a, .int w, .int g, mJ] [] h = some (.inl none, h') ∧ CA h' a (szW W w g) ∧ out (CB a) h h' := by
  obtain ⟨w1, w2⟩ := bd_nI hw (by omega)
  obtain ⟨g1, g2⟩ := bd_nI hg (by omega)
  have hw2 := hw.2
  have hg2 := hg.2
  obtain ⟨F, A, -⟩ := H.px
  obtain ⟨h', e, P, o⟩ := layOut_ev O d A (w := w.toNatClampNeg) (g := g.toNatClampNeg) (by omega) (by omega)
  rw [← w1, ← g1] at e
  refine ⟨h', e, ⟨?_, fun k hk => ?_, ?_, ?_⟩, o⟩
  · rw [P.1]
    rfl
  · have := P.2 k (by omega)
    rw [show szC k = 30 from if_pos hk] at this
    refine ⟨_, this, fun q hq => ?_⟩
    rw [szW_p hq hk]
    have hk' : k = 0 ∨ k = 1 ∨ k = 2 ∨ k = 3 ∨ k = 4 ∨ k = 5 := by omega
    rcases hk' with rfl | rfl | rfl | rfl | rfl | rfl
    all_goals exact if_pos hq
  · exact ⟨_, P.2 6 (by omega), fun i hi => absurd hi (by rw [show kN (szW W w g) = 0 from rfl]; omega)⟩
  · refine ⟨_, P.2 7 (by omega), fun i hi => ?_⟩
    have : szW W w g (247 + i) = 0 := by
      unfold szW
      rw [if_neg (by omega), if_neg (by omega), if_neg (by omega), if_pos (by omega), if_neg (by omega)]
    rw [this]
    exact if_pos hi
end LayOut
