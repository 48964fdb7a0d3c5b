/-! The class's image, back and undo -/
theorem iscP {h : mH} {a l : Int32} (H : h.1[51]? = some (oP a l)) : m_isc h 51 4 = true := by simp only [m_isc, H, oP]; rfl
theorem pG13 {h : mH} {g : gT} (H : h.1[0]? = some (oG g)) (x : Int32) : m_pf h 0 7 13 (.int x) = some (h.1.set 0 (oG (g.1, g.2.1, g.2.2.1, g.2.2.2.1, g.2.2.2.2.1, x)), h.2) := by simp only [m_pf, H]; rfl
theorem LF.isc {h : mH} {a : Nat} (L : LF h a) : m_isc h a 2 = true := by
  obtain ⟨n, us, K, F, E, D, L⟩ := L
  exact L_isc L.1
theorem LF_out {h h' : mH} {a : Nat} (L : LF h a) {D : Nat → Prop} (o : out D h h') (hD : ∀ b, D b → ¬ LB a b) : LF h' a := by
  obtain ⟨n, us, K, F, E, D', l0, l1, l2, l3, l4⟩ := L
  have q : ∀ k, k < 5 → h'.1[a + k]? = h.1[a + k]? := fun k hk => o.2.2 _ (fun z => hD _ z (by unfold LB; omega))
  exact ⟨n, us, K, F, E, D', (q 0 (by omega)).trans l0, (q 1 (by omega)).trans l1, (q 2 (by omega)).trans l2, (q 3 (by omega)).trans l3, (q 4 (by omega)).trans l4⟩
theorem LA_out {h h' : mH} {a : Nat} {W : WD} (L : LA h a W) {D : Nat → Prop} (o : out D h h') (hD : ∀ b, D b → ¬ LB a b) : LA h' a W := by
  have q : ∀ k, k < 5 → h'.1[a + k]? = h.1[a + k]? := fun k hk => o.2.2 _ (fun z => hD _ z (by unfold LB; omega))
  rcases L with ⟨w, n, eb, X, us, K, F, E, D, l0, l1, l2, l3, l4, l5⟩ | ⟨w, us, l0⟩
  · exact .inl ⟨w, n, eb, X, us, K, F, E, D, (q 0 (by omega)).trans l0, (q 1 (by omega)).trans l1, (q 2 (by omega)).trans l2, (q 3 (by omega)).trans l3, (q 4 (by omega)).trans l4, l5⟩
  · exact .inr ⟨w, us, (q 0 (by omega)).trans l0⟩
section ImageG
variable {h : mH} {g : gT} {W V : WD}
theorem Gundo_ev (O : mO) (d : Nat) (G : h.1[0]? = some (oG g)) (H : CA h g.1 W) (R : rng W) (ga : g.1 < 28) {r l : Nat} {A B C : Nat → Int32} (P : PC h r l A B C) (hr : r ≤ 12) (hl : l < 12) : (r = 0 → ev O (d + 1) 138 0 [.ref 0] [] h = some (.inl (some (.int (0))), h)) ∧ (0 < r → ∃ h', ev O (d + 1) 138 0 [.ref 0] [] h = some (.inl (some (.int (1))), h') ∧ out (fun b => b = 51 ∨ (g.1 + 1 ≤ b ∧ b ≤ g.1 + 6)) h h' ∧ PC h' (r - 1) ((l + 11) % 12) A B C ∧ CA h' g.1 (ubW W l A B C)) := by
  obtain ⟨q1, q2⟩ := giveBack_ev O d H R ga P hr hl
  refine ⟨fun z => ?_, fun z => ?_⟩
  · simp only [e_138_0, e_138_1, e_138_4, e_138_5, e_138_8, e_138_11, Option.bind_some, Option.bind_none, m_kt, m_kn, Option.toList_some, Option.toList_none, List.nil_append, List.cons_append, List.append_nil, ltn, ite_not, ↓reduceIte, true_or, or_true, nP1, oI_s, oI_n, bI_f, bI_t, i1_0, i0_0, Bool.false_eq_true, not_true_eq_false, not_false_eq_true, gG7 G, gG0 G, iscP P.1, q1 z, z01]
  · obtain ⟨h', e, q⟩ := q2 z
    refine ⟨h', ?_, q⟩
    simp only [e_138_0, e_138_1, e_138_4, e_138_5, e_138_8, e_138_11, Option.bind_some, Option.bind_none, m_kt, m_kn, Option.toList_some, Option.toList_none, List.nil_append, List.cons_append, List.append_nil, ltn, ite_not, ↓reduceIte, true_or, or_true, nP1, oI_s, oI_n, bI_f, bI_t, i1_0, i0_0, Bool.false_eq_true, not_true_eq_false, not_false_eq_true, gG7 G, gG0 G, iscP P.1, e, o01]
theorem Gimage_ev (O : mO) (d : Nat) (G : h.1[0]? = some (oG g)) (H : CA h g.1 W) (R : rng W) (g1 : 1 ≤ g.1 ∧ g.1 ≤ 10) (gl : g.2.2.1 = 28 ∨ g.2.2.1 = 35) (K : CA h 19 V) (L : LA h g.2.2.1 W) (LL : LF h g.2.2.1) (LK : LF h 42) : ∃ h', ev O (d + 1) 139 0 [.ref 0] [] h = some (.inl none, h') ∧ h'.1[0]? = some (oG (g.1, g.2.1, g.2.2.1, g.2.2.2.1, g.2.2.2.2.1, 1)) ∧ CA h' 19 W ∧ LA h' 42 W ∧ LF h' 42 ∧ out (fun b => b = 0 ∨ CB 19 b ∨ LB 42 b) h h' := by
  obtain ⟨h1, e1, c1, o1⟩ := become_ev O d K H (by omega) R
  have G1 : h1.1[0]? = some (oG g) := (o1.2.2 0 (by unfold CB; omega)).trans G
  have d1 : ∀ a, 28 ≤ a → ∀ b, CB 19 b → ¬ LB a b := fun a ha b q z => by unfold CB at q; unfold LB at z; omega
  obtain ⟨h2, e2, l2, f2, o2⟩ := lawBec_ev O d (LF_out LK o1 (d1 42 (by omega))) (LF_out LL o1 (d1 _ (by omega))) (by omega) (LA_out L o1 (d1 _ (by omega)))
  have G2 : h2.1[0]? = some (oG g) := (o2.2.2 0 (by unfold LB; omega)).trans G1
  have o3 : out (fun b => b = 0) h2 (h2.1.set 0 (oG (g.1, g.2.1, g.2.2.1, g.2.2.2.1, g.2.2.2.2.1, 1)), h2.2) := out.st h2 _ rfl
  refine ⟨_, ?_, hget G2, (c1.out o2 (fun b q => by unfold LB at q; omega)).out o3 (fun b q => by omega), LA_out l2 o3 (fun b q z => by unfold LB at z; omega), LF_out f2 o3 (fun b q z => by unfold LB at z; omega), ((o1.mo (fun b q => .inr (.inl q))).tr1 (o2.mo (fun b q => .inr (.inr q)))).tr1 (o3.mo (fun b q => .inl q))⟩
  simp only [e_139_0, e_139_1, e_139_4, e_139_5, e_139_8, e_139_11, e_139_12, e_139_15, e_139_16, e_139_19, e_139_22, e_139_23, e_139_24, e_139_27, Option.bind_some, Option.bind_none, m_kt, m_kn, Option.toList_some, Option.toList_none, List.nil_append, List.cons_append, List.append_nil, ltn, ite_not, ↓reduceIte, true_or, or_true, nP1, oI_s, oI_n, bI_f, bI_t, i1_0, i0_0, Bool.false_eq_true, not_true_eq_false, not_false_eq_true, gG2 G, gG0 G, K.isc, e1, gG5 G1, gG3 G1, (LF_out LK o1 (d1 42 (by omega))).isc, e2, pG13 G2, o01]
theorem Gback0_ev (O : mO) (d : Nat) (G : h.1[0]? = some (oG g)) (z : g.2.2.2.2.2 = 0) : ev O (d) 140 0 [.ref 0] [] h = some (.inl (some (.int (0))), h) := by
  simp only [e_140_0, e_140_1, e_140_4, e_140_7, e_140_8, e_140_9, e_140_10, e_140_13, e_140_14, e_140_17, e_140_20, e_140_21, e_140_24, e_140_25, e_140_28, e_140_31, e_140_32, e_140_35, e_140_38, e_140_39, Option.bind_some, Option.bind_none, m_kt, m_kn, Option.toList_some, Option.toList_none, List.nil_append, List.cons_append, List.append_nil, ltn, ite_not, ↓reduceIte, true_or, or_true, nP1, oI_s, oI_n, bI_f, bI_t, i1_0, i0_0, Bool.false_eq_true, not_true_eq_false, not_false_eq_true, gG13 G, z, z01]
theorem Gback1_ev (O : mO) (d : Nat) (G : h.1[0]? = some (oG g)) (z : g.2.2.2.2.2 = 1) (H : CA h g.1 W) (RV : rng V) (g1 : 1 ≤ g.1 ∧ g.1 ≤ 10) (gl : g.2.2.1 = 28 ∨ g.2.2.1 = 35) (K : CA h 19 V) (LL : LF h g.2.2.1) (LV : LA h 42 V) (LK : LF h 42) {r l : Nat} {A B C : Nat → Int32} (P : PC h r l A B C) : ∃ h', ev O (d + 1) 140 0 [.ref 0] [] h = some (.inl (some (.int (1))), h') ∧ CA h' g.1 V ∧ LA h' g.2.2.1 V ∧ LF h' g.2.2.1 ∧ PC h' 0 l A B C ∧ out (fun b => b = 51 ∨ CB g.1 b ∨ LB g.2.2.1 b) h h' := by
  obtain ⟨h1, e1, c1, o1⟩ := become_ev O d H K (by omega) RV
  have G1 : h1.1[0]? = some (oG g) := (o1.2.2 0 (by unfold CB; omega)).trans G
  have d1 : ∀ a, 28 ≤ a → ∀ b, CB g.1 b → ¬ LB a b := fun a ha b q z => by unfold CB at q; unfold LB at z; omega
  obtain ⟨h2, e2, l2, f2, o2⟩ := lawBec_ev O d (LF_out LL o1 (d1 _ (by omega))) (LF_out LK o1 (d1 42 (by omega))) (by omega) (LA_out LV o1 (d1 42 (by omega)))
  have G2 : h2.1[0]? = some (oG g) := (o2.2.2 0 (by unfold LB; omega)).trans G1
  have P2 : PC h2 r l A B C := PC_o (PC_o P o1 (fun b q z => by unfold CB at q; unfold PS at z; omega)) o2 (fun b q z => by unfold LB at q; unfold PS at z; omega)
  have o3 : out (fun b => b = 51) h2 (h2.1.set 51 (oP 0 (nI l)), h2.2) := out.st h2 _ rfl
  have ef : ev O (d) 72 0 [.ref 51] [] h2 = some (.inl none, (h2.1.set 51 (oP 0 (nI l)), h2.2)) := by simp only [e_72_0, e_72_1, e_72_2, e_72_5, Option.bind_some, Option.bind_none, m_kt, m_kn, Option.toList_some, Option.toList_none, List.nil_append, List.cons_append, List.append_nil, ltn, ite_not, ↓reduceIte, true_or, or_true, nP1, oI_s, oI_n, bI_f, bI_t, i1_0, i0_0, Bool.false_eq_true, not_true_eq_false, not_false_eq_true, pP0 P2.1]
  refine ⟨_, ?_, (c1.out o2 (fun b q => by unfold LB at q; omega)).out o3 (fun b q => by omega), LA_out l2 o3 (fun b q z => by unfold LB at z; omega), LF_out f2 o3 (fun b q z => by unfold LB at z; omega), ⟨hget P2.1, (hne (by decide)).trans P2.2.1, (hne (by decide)).trans P2.2.2.1, (hne (by decide)).trans P2.2.2.2⟩, ((o1.mo (fun b q => .inr (.inl q))).tr1 (o2.mo (fun b q => .inr (.inr q)))).tr1 (o3.mo (fun b q => .inl q))⟩
  simp only [e_140_0, e_140_1, e_140_4, e_140_7, e_140_8, e_140_9, e_140_10, e_140_13, e_140_14, e_140_17, e_140_20, e_140_21, e_140_24, e_140_25, e_140_28, e_140_31, e_140_32, e_140_35, e_140_38, e_140_39, Option.bind_some, Option.bind_none, m_kt, m_kn, Option.toList_some, Option.toList_none, List.nil_append, List.cons_append, List.append_nil, ltn, ite_not, ↓reduceIte, true_or, or_true, nP1, oI_s, oI_n, bI_f, bI_t, i1_0, i0_0, Bool.false_eq_true, not_true_eq_false, not_false_eq_true, gG13 G, z, gG0 G, gG2 G, H.isc, e1, gG3 G1, gG5 G1, (LF_out LL o1 (d1 _ (by omega))).isc, e2, gG7 G2, iscP P2.1, ef, o01]
end ImageG
