/-! The class's call city -/
def CGc (g : gT) (b : Nat) : Prop := b = 0 ∨ b = 49 ∨ b = 51 ∨ CB g.1 b ∨ CB g.2.1 b
def CTg (r : Option mR) (s : Nat ⊕ WD) (h : mH) (g : gT) (W : WD) (rr ll : Nat) (A B C : Nat → Int32) : Prop := match s with
  | .inl f => ∃ h', r = some (.inr 0, (h'.1, h'.2 + 1)) ∧ h'.1[0]? = some (oG (g.1, g.2.1, g.2.2.1, g.2.2.2.1, nI f, g.2.2.2.2.2)) ∧ (∃ p t w, h'.1[49]? = some (oT 0 p t w)) ∧ CA h' g.1 W ∧ (∃ V, CA h' g.2.1 V) ∧ PC h' rr ll A B C ∧ out (CGc g) h h'
  | .inr V => (W 3 = 10 ∧ ∃ h', r = some (.inr 3, (h'.1, h'.2 + 1)) ∧ h'.1[0]? = some (oG (g.1, g.2.1, g.2.2.1, g.2.2.2.1, -1, g.2.2.2.2.2)) ∧ (∃ p t w, h'.1[49]? = some (oT 0 p t w)) ∧ CA h' g.1 W ∧ (∃ V, CA h' g.2.1 V) ∧ PC h' rr ll A B C ∧ out (CGc g) h h') ∨
    (¬ W 3 = 10 ∧ ∃ h', r = some (.inl (some (.int (W 3 + 1))), h') ∧ h'.1[0]? = some (oG (g.2.1, g.1, g.2.2.1, g.2.2.2.1, -1, g.2.2.2.2.2)) ∧ (∃ p t w, h'.1[49]? = some (oT 0 p t w)) ∧ CA h' g.2.1 (upd V 3 (W 3 + 1)) ∧ (∃ V, CA h' g.1 V) ∧ PC h' 0 ll A B C ∧ out (CGc g) h h')
section GcityS
variable {h : mH} {g : gT} {W V0 : WD}
theorem pG12 (H : h.1[0]? = some (oG g)) (x : Int32) : m_pf h 0 7 12 (.int x) = some (h.1.set 0 (oG (g.1, g.2.1, g.2.2.1, g.2.2.2.1, x, g.2.2.2.2.2)), h.2) := by simp only [m_pf, H]; rfl
theorem pG0 (H : h.1[0]? = some (oG g)) (x : Nat) : m_pf h 0 7 0 (.ref x) = some (h.1.set 0 (oG (x, g.2.1, g.2.2.1, g.2.2.2.1, g.2.2.2.2.1, g.2.2.2.2.2)), h.2) := by simp only [m_pf, H]; rfl
theorem pG1 (H : h.1[0]? = some (oG g)) (x : Nat) : m_pf h 0 7 1 (.ref x) = some (h.1.set 0 (oG (g.1, x, g.2.2.1, g.2.2.2.1, g.2.2.2.2.1, g.2.2.2.2.2)), h.2) := by simp only [m_pf, H]; rfl
theorem pG3 (H : h.1[0]? = some (oG g)) (x : Nat) : m_pf h 0 7 3 (.ref x) = some (h.1.set 0 (oG (g.1, g.2.1, x, g.2.2.2.1, g.2.2.2.2.1, g.2.2.2.2.2)), h.2) := by simp only [m_pf, H]; rfl
theorem pG4 (H : h.1[0]? = some (oG g)) (x : Nat) : m_pf h 0 7 4 (.ref x) = some (h.1.set 0 (oG (g.1, g.2.1, g.2.2.1, x, g.2.2.2.2.1, g.2.2.2.2.2)), h.2) := by simp only [m_pf, H]; rfl
theorem open_ev (O : mO) (d : Nat) {l p t w : Int32} (K : h.1[49]? = some (oT l p t w)) : ev O (d) 78 0 [.ref 49] [] h = some (.inl none, (h.1.set 49 (oT l 0 t (-1)), h.2)) := by
  have K1 : ((h.1.set 49 (oT l 0 t w), h.2) : mH).1[49]? = some (oT l 0 t w) := hget K
  simp only [e_78_0, e_78_1, e_78_2, e_78_5, e_78_6, e_78_7, e_78_10, Option.bind_some, Option.bind_none, m_kt, m_kn, Option.toList_some, Option.toList_none, List.nil_append, List.cons_append, List.append_nil, ltn, ite_not, ↓reduceIte, true_or, or_true, nP1, oI_s, oI_n, bI_f, bI_t, i1_0, i0_0, Bool.false_eq_true, not_true_eq_false, not_false_eq_true, pT2 K, pT4 K1, List.set_set]
theorem close_ev (O : mO) (d : Nat) {l p t w : Int32} (K : h.1[49]? = some (oT l p t w)) : ev O (d) 79 0 [.ref 49] [] h = some (.inl (some (.int (w))), (h.1.set 49 (oT 0 p t w), h.2)) := by
  have K1 : ((h.1.set 49 (oT 0 p t w), h.2) : mH).1[49]? = some (oT 0 p t w) := hget K
  simp only [e_79_0, e_79_1, e_79_2, e_79_5, e_79_6, e_79_9, Option.bind_some, Option.bind_none, m_kt, m_kn, Option.toList_some, Option.toList_none, List.nil_append, List.cons_append, List.append_nil, ltn, ite_not, ↓reduceIte, true_or, or_true, nP1, oI_s, oI_n, bI_f, bI_t, i1_0, i0_0, Bool.false_eq_true, not_true_eq_false, not_false_eq_true, pT1 K, gT4 K1]
theorem Gcity_ev (O : mO) (d : Nat) (X : CTX O) (G : h.1[0]? = some (oG g)) (H : CA h g.1 W) (R : rng W) (D : CA h g.2.1 V0) (gg : (g.1 = 1 ∧ g.2.1 = 10) ∨ (g.1 = 10 ∧ g.2.1 = 1)) {l : Nat} {p t w : Int32} (K : h.1[49]? = some (oT (nI l) p t w)) (hl : l ≤ 400) {B : Nat → Int32} (e50 : h.1[50]? = some (aB 400 B)) {rr ll : Nat} {A1 B1 C1 : Nat → Int32} (P : PC h rr ll A1 B1 C1) : CTg (ev O (d + 9) 104 0 [.ref 0, mJ, mJ] [] h) (ctS B l W) h g W rr ll A1 B1 C1 := by
  obtain ⟨h1, b1, D1, o1⟩ := become_ev O (d + 8) D H (by omega) R
  have G1 : h1.1[0]? = some (oG g) := (o1.2.2 0 (by unfold CB; omega)).trans G
  have K1 : h1.1[49]? = some (oT (nI l) p t w) := (o1.2.2 49 (by unfold CB; omega)).trans K
  have H1 : CA h1 g.1 W := H.out o1 (fun b q => by unfold CB at q; omega)
  let h2 : mH := (h1.1.set 49 (oT (nI l) 0 t (-1)), h1.2)
  have o2 : out (fun b => b = 49) h1 h2 := out.st h1 _ rfl
  have G2 : h2.1[0]? = some (oG g) := (hne (by decide)).trans G1
  have K2 : h2.1[49]? = some (oT (nI l) 0 t (-1)) := hget K1
  have E2 : h2.1[50]? = some (aB 400 B) := (hne (by decide)).trans ((o1.2.2 50 (by unfold CB; omega)).trans e50)
  have H2 : CA h2 g.1 W := H1.out o2 (fun b q => by omega)
  have D2 : CA h2 g.2.1 W := D1.out o2 (fun b q => by omega)
  have o12 : out (CGc g) h h2 := (o1.mo (fun b q => .inr (.inr (.inr (.inr q))))).tr1 (o2.mo (fun b q => .inr (.inl q)))
  have e2 : ev O (d + 8) 78 0 [.ref 49] [] h1 = some (.inl none, h2) := open_ev O (d + 8) K1
  have rd := read_ev O d X hl (show g.2.1 < 28 by omega) K2 E2 D2 R
  have fin : ∀ {h3 : mH} {p' t' w' : Int32} {V : WD}, h3.1[49]? = some (oT (nI l) p' t' w') → CA h3 g.2.1 V → out (TZ g.2.1) h2 h3 → ∃ h5, ev O (d + 8) 79 0 [.ref 49] [] h3 = some (.inl (some (.int (w'))), (h3.1.set 49 (oT 0 p' t' w'), h3.2)) ∧ m_pf ((h3.1.set 49 (oT 0 p' t' w'), h3.2) : mH) 0 7 12 (.int w') = some h5 ∧ h3.1[0]? = some (oG g) ∧ ((h3.1.set 49 (oT 0 p' t' w'), h3.2) : mH).1[0]? = some (oG g) ∧ h5.1[0]? = some (oG (g.1, g.2.1, g.2.2.1, g.2.2.2.1, w', g.2.2.2.2.2)) ∧ h5.1[49]? = some (oT 0 p' t' w') ∧ CA h5 g.1 W ∧ CA h5 g.2.1 V ∧ PC h5 rr ll A1 B1 C1 ∧ out (CGc g) h h5 := by
    intro h3 p' t' w' V k3 c3 o3
    have G3 : h3.1[0]? = some (oG g) := (o3.2.2 0 (by unfold TZ CB; omega)).trans G2
    have o4 : out (fun b => b = 49) h3 (h3.1.set 49 (oT 0 p' t' w'), h3.2) := out.st h3 _ rfl
    have G4 : ((h3.1.set 49 (oT 0 p' t' w'), h3.2) : mH).1[0]? = some (oG g) := (hne (by decide)).trans G3
    have o5 : out (fun b => b = 0) (h3.1.set 49 (oT 0 p' t' w'), h3.2) (((h3.1.set 49 (oT 0 p' t' w')).set 0 (oG (g.1, g.2.1, g.2.2.1, g.2.2.2.1, w', g.2.2.2.2.2)), h3.2) : mH) := out.st _ _ rfl
    have H3 : CA h3 g.1 W := H2.out o3 (fun b q => by unfold TZ CB at q; omega)
    refine ⟨_, close_ev O (d + 8) k3, pG12 G4 w', G3, G4, hget G4, (hne (by decide)).trans (hget k3), (H3.out o4 (fun b q => by omega)).out o5 (fun b q => by omega), (c3.out o4 (fun b q => by omega)).out o5 (fun b q => by omega), ?_, ?_⟩
    · refine PC_o (PC_o (PC_o (PC_o (PC_o P o1 ?_) o2 ?_) o3 ?_) o4 ?_) o5 ?_
      · intro b q z; unfold CB at q; unfold PS at z; omega
      · intro b q z; unfold PS at z; omega
      · intro b q z; unfold TZ CB at q; unfold PS at z; omega
      · intro b q z; unfold PS at z; omega
      · intro b q z; unfold PS at z; omega
    · refine ((o12.tr1 (o3.mo (fun b q => ?_))).tr1 (o4.mo (fun b q => .inr (.inl q)))).tr1 (o5.mo (fun b q => .inl q))
      rcases q with q | q
      · exact .inr (.inl q)
      · exact .inr (.inr (.inr (.inr q)))
  cases e : ctS B l W with
  | inl f =>
    rw [e] at rd
    obtain ⟨h3, p', t', r3, k3, ⟨V, c3⟩, o3⟩ := rd
    obtain ⟨h5, a1, a2, G3, G4, a3, a4, a5, a6, a7, a8⟩ := fin k3 c3 o3
    refine ⟨h5, ?_, a3, ⟨_, _, _, a4⟩, a5, ⟨V, a6⟩, a7, a8⟩
    simp only [e_104_0, e_104_1, e_104_4, e_104_5, e_104_8, e_104_11, e_104_12, e_104_15, e_104_18, e_104_19, e_104_22, e_104_23, e_104_26, e_104_29, e_104_30, e_104_31, e_104_32, e_104_35, e_104_38, e_104_41, e_104_42, e_104_45, e_104_53, e_104_54, e_104_57, e_104_60, e_104_62, e_104_65, e_104_73, e_104_74, e_104_77, e_104_78, e_104_79, e_104_80, e_104_83, e_104_86, e_104_87, e_104_88, e_104_91, e_104_92, e_104_95, e_104_96, e_104_99, e_104_100, e_104_101, e_104_104, e_104_105, e_104_108, e_104_111, e_104_112, e_104_115, e_104_118, Option.bind_some, Option.bind_none, m_kt, m_kn, Option.toList_some, Option.toList_none, List.nil_append, List.cons_append, List.append_nil, ltn, ite_not, ↓reduceIte, true_or, or_true, nP1, oI_s, oI_n, bI_f, bI_t, i1_0, i0_0, Bool.false_eq_true, not_true_eq_false, not_false_eq_true, gG1 G, gG0 G, D.isc, b1, gG6 G1, iscT K1, e2, gG6 G2, gG1 G2, r3, gG6 G3, iscT k3, a1, a2]
  | inr V =>
    rw [e] at rd
    obtain ⟨h3, p', t', r3, k3, c3, o3⟩ := rd
    obtain ⟨h5, a1, a2, G3, G4, a3, a4, a5, a6, a7, a8⟩ := fin k3 c3 o3
    have b3 := R.1.2.2.2.2.1
    have v3 : V 3 = W 3 := ctS_hi R e (by omega)
    by_cases c : W 3 = 10
    · refine .inl ⟨c, h5, ?_, a3, ⟨_, _, _, a4⟩, a5, ⟨V, a6⟩, a7, a8⟩
      simp only [e_104_0, e_104_1, e_104_4, e_104_5, e_104_8, e_104_11, e_104_12, e_104_15, e_104_18, e_104_19, e_104_22, e_104_23, e_104_26, e_104_29, e_104_30, e_104_31, e_104_32, e_104_35, e_104_38, e_104_41, e_104_42, e_104_45, e_104_53, e_104_54, e_104_57, e_104_60, e_104_62, e_104_65, e_104_73, e_104_74, e_104_77, e_104_78, e_104_79, e_104_80, e_104_83, e_104_86, e_104_87, e_104_88, e_104_91, e_104_92, e_104_95, e_104_96, e_104_99, e_104_100, e_104_101, e_104_104, e_104_105, e_104_108, e_104_111, e_104_112, e_104_115, e_104_118, Option.bind_some, Option.bind_none, m_kt, m_kn, Option.toList_some, Option.toList_none, List.nil_append, List.cons_append, List.append_nil, ltn, ite_not, ↓reduceIte, true_or, or_true, nP1, oI_s, oI_n, bI_f, bI_t, i1_0, i0_0, Bool.false_eq_true, not_true_eq_false, not_false_eq_true, gG1 G, gG0 G, D.isc, b1, gG6 G1, iscT K1, e2, gG6 G2, gG1 G2, r3, gG6 G3, iscT k3, a1, a2, gG0 a3, gC17 a5, c, Int32.le_refl]
    · have c1 : ¬ (10 : Int32) ≤ W 3 := fun q => c (by
        rw [i_le] at q
        have t10 : (10 : Int32).toInt = 10 := by decide
        have := b3.2
        exact Int32.toInt_inj.mp (by omega))
      let g6 : gT := (g.2.1, g.2.1, g.2.2.1, g.2.2.2.1, -1, g.2.2.2.2.2)
      let g7 : gT := (g.2.1, g.1, g.2.2.1, g.2.2.2.1, -1, g.2.2.2.2.2)
      let h6 : mH := (h5.1.set 0 (oG g6), h5.2)
      let h7 : mH := (h6.1.set 0 (oG g7), h6.2)
      have p6 : m_pf h5 0 7 0 (.ref g.2.1) = some h6 := pG0 a3 g.2.1
      have G6 : h6.1[0]? = some (oG g6) := hget a3
      have p7 : m_pf h6 0 7 1 (.ref g.1) = some h7 := pG1 G6 g.1
      have G7 : h7.1[0]? = some (oG g7) := hget G6
      have o6 : out (fun b => b = 0) h5 h6 := out.st h5 _ rfl
      have o7 : out (fun b => b = 0) h6 h7 := out.st h6 _ rfl
      have d0 : ∀ b, b = 0 → b < g.1 ∨ g.1 + 9 ≤ b := fun b q => by omega
      have d1 : ∀ b, b = 0 → b < g.2.1 ∨ g.2.1 + 9 ≤ b := fun b q => by omega
      have D7 : CA h7 g.2.1 V := (a6.out o6 d1).out o7 d1
      obtain ⟨h8, n1, D8, o8⟩ := CA_num D7 (i := 3) (k := 17) (by omega) rfl (W 3 + 1)
      have G8 : h8.1[0]? = some (oG g7) := (o8.2.2 0 (by unfold CB; omega)).trans G7
      have P8 : PC h8 rr ll A1 B1 C1 := PC_o (PC_o (PC_o a7 o6 (fun b q z => by unfold PS at z; omega)) o7 (fun b q z => by unfold PS at z; omega)) o8 (fun b q z => by unfold CB at q; unfold PS at z; omega)
      let h9 : mH := (h8.1.set 51 (oP 0 (nI ll)), h8.2)
      have o9 : out (fun b => b = 51) h8 h9 := out.st h8 _ rfl
      have ef : ev O (d + 8) 72 0 [.ref 51] [] h8 = some (.inl none, h9) := by simp only [e_72_0, e_72_1, e_72_2, e_72_5, Option.bind_some, Option.bind_none, m_kt, m_kn, Option.toList_some, Option.toList_none, List.nil_append, List.cons_append, List.append_nil, ltn, ite_not, ↓reduceIte, true_or, or_true, nP1, oI_s, oI_n, bI_f, bI_t, i1_0, i0_0, Bool.false_eq_true, not_true_eq_false, not_false_eq_true, pP0 P8.1]; rfl
      have G9 : h9.1[0]? = some (oG g7) := (hne (by decide)).trans G8
      have D9 : CA h9 g.2.1 (upd V 3 (W 3 + 1)) := D8.out o9 (fun b q => by omega)
      have g9 : m_gf h9 g.2.1 0 17 = some (.int (W 3 + 1)) := gC17 D9
      have g0' : ∀ {hh : mH}, hh.1[0]? = some (oG g7) → m_gf hh 0 7 0 = some (.ref g.2.1) := fun q => gG0 q
      have g7' : ∀ {hh : mH}, hh.1[0]? = some (oG g7) → m_gf hh 0 7 7 = some (.ref 51) := fun q => gG7 q
      have g17 : m_gf h7 g.2.1 0 17 = some (.int (W 3)) := by rw [gC17 D7, v3]
      have x1 : m_gf h5 0 7 0 = some (.ref g.1) := by have := gG0 a3; exact this
      have x2 : m_gf h5 0 7 1 = some (.ref g.2.1) := by have := gG1 a3; exact this
      refine .inr ⟨c, h9, ?_, G9, ⟨p', t', -1, ?_⟩, D9, ⟨W, ?_⟩, ⟨hget P8.1, (hne (by decide)).trans P8.2.1, (hne (by decide)).trans P8.2.2.1, (hne (by decide)).trans P8.2.2.2⟩, ?_⟩
      · simp only [e_104_0, e_104_1, e_104_4, e_104_5, e_104_8, e_104_11, e_104_12, e_104_15, e_104_18, e_104_19, e_104_22, e_104_23, e_104_26, e_104_29, e_104_30, e_104_31, e_104_32, e_104_35, e_104_38, e_104_41, e_104_42, e_104_45, e_104_53, e_104_54, e_104_57, e_104_60, e_104_62, e_104_65, e_104_73, e_104_74, e_104_77, e_104_78, e_104_79, e_104_80, e_104_83, e_104_86, e_104_87, e_104_88, e_104_91, e_104_92, e_104_95, e_104_96, e_104_99, e_104_100, e_104_101, e_104_104, e_104_105, e_104_108, e_104_111, e_104_112, e_104_115, e_104_118, Option.bind_some, Option.bind_none, m_kt, m_kn, Option.toList_some, Option.toList_none, List.nil_append, List.cons_append, List.append_nil, ltn, ite_not, ↓reduceIte, true_or, or_true, nP1, oI_s, oI_n, bI_f, bI_t, i1_0, i0_0, Bool.false_eq_true, not_true_eq_false, not_false_eq_true, gG1 G, gG0 G, D.isc, b1, gG6 G1, iscT K1, e2, gG6 G2, gG1 G2, r3, gG6 G3, iscT k3, a1, a2, x1, gC17 a5, c1, x2, p6, p7, g0' G7, cat_ref, g17, n1, g7' G8, iscP P8.1, ef, g0' G9, g9]
      · exact (((hne (by decide)).trans (o8.2.2 49 (by unfold CB; omega))).trans ((hne (by decide)).trans (hne (by decide)))).trans a4
      · exact (((a5.out o6 d0).out o7 d0).out o8 (fun b q => by unfold CB at q; omega)).out o9 (fun b q => by omega)
      · exact (((a8.tr1 (o6.mo (fun b q => .inl q))).tr1 (o7.mo (fun b q => .inl q))).tr1 (o8.mo (fun b q => .inr (.inr (.inr (.inr q)))))).tr1 (o9.mo (fun b q => .inr (.inr (.inl q))))
end GcityS
