/-! The reference's call city -/
def CTm (s : Nat ⊕ WD) (W : WD) (m m' : Nat → Int32) (W' : WD) (v : Int32) : Prop := match s with
  | .inl f => m' 0 = 1 ∧ m' 13 = nI f ∧ m' 6 = m 6 ∧ ∀ i, i < 1264 → W' i = W i
  | .inr V => m' 13 = -1 ∧ ((W 3 = 10 ∧ m' 0 = 2 ∧ m' 6 = m 6 ∧ ∀ i, i < 1264 → W' i = W i) ∨ (¬ W 3 = 10 ∧ m' 0 = 0 ∧ m' 6 = 0 ∧ W' = upd V 3 (W 3 + 1) ∧ v = W 3 + 1))
def CMc (b : Nat) : Prop := b = 66 ∨ b = 67 ∨ b = 69
section McityS
variable {h : mH} {m : Nat → Int32} {W : WD}
theorem rest_run (O : mO) (d : Nat) {s : mH} {q : Nat → Int32} {V F : WD} (H : MS s q V) (e69 : s.1[69]? = some (aI 1264 F)) (x : Int32) : ∀ n k, k + n = 1264 → ev O (d) 189 97 [.ref 66, .int x, .int (nI k)] [] (hT s (cpN F V k)) = some (.inl (some (.int (0))), hT s (cpN F V 1264)) := by
  have H1 : ∀ U, MS (hT s U) q U := fun U => hT_MS H U
  have k69 : ∀ U, (hT s U).1[69]? = some (aI 1264 F) := fun U => (hne (by decide)).trans e69
  intro n
  induction n with
  | zero =>
    intro k hk
    rw [show k = 1264 by omega, e_189_97]
    simp only [e_189_0, e_189_1, e_189_2, e_189_5, e_189_6, e_189_7, e_189_8, e_189_11, e_189_14, e_189_15, e_189_18, e_189_19, e_189_20, e_189_23, e_189_24, e_189_25, e_189_26, e_189_29, e_189_32, e_189_33, e_189_34, e_189_37, e_189_38, e_189_39, e_189_40, e_189_43, e_189_44, e_189_47, e_189_50, e_189_51, e_189_54, e_189_55, e_189_56, e_189_59, e_189_60, e_189_63, e_189_64, e_189_65, e_189_68, e_189_71, e_189_72, e_189_73, e_189_76, e_189_77, e_189_78, e_189_80, e_189_83, e_189_84, e_189_87, e_189_88, e_189_89, e_189_92, e_189_95, e_189_96, e_189_98, e_189_101, e_189_104, e_189_105, e_189_108, e_189_109, e_189_110, e_189_113, e_189_114, e_189_115, e_189_116, e_189_119, e_189_122, e_189_123, e_189_124, e_189_125, e_189_128, e_189_129, e_189_130, e_189_131, e_189_132, e_189_133, e_189_134, e_189_135, e_189_136, e_189_139, e_189_140, e_189_143, e_189_144, e_189_145, Option.bind_some, Option.bind_none, m_kt, m_kn, Option.toList_some, Option.toList_none, List.nil_append, List.cons_append, List.append_nil, ltn, ite_not, ↓reduceIte, true_or, or_true, nP1, oI_s, oI_n, bI_f, bI_t, i1_0, i0_0, Bool.false_eq_true, not_true_eq_false, not_false_eq_true, (show ((1264 : Int32) ≤ nI 1264) = True by decide)]
  | succ n ih =>
    intro k hk
    have c1 : ¬ (1264 : Int32) ≤ nI k := nI_ge (b := 1264) (by omega) (by omega)
    have s1 : ∀ U x, m_si (hT s U) 67 (nI k) x = some (hT s (upd U k x)) := fun U x => by
      rw [hT_s (H1 U) (show k < 2101 by omega), hT_hT]
    rw [e_189_97]
    simp only [e_189_0, e_189_1, e_189_2, e_189_5, e_189_6, e_189_7, e_189_8, e_189_11, e_189_14, e_189_15, e_189_18, e_189_19, e_189_20, e_189_23, e_189_24, e_189_25, e_189_26, e_189_29, e_189_32, e_189_33, e_189_34, e_189_37, e_189_38, e_189_39, e_189_40, e_189_43, e_189_44, e_189_47, e_189_50, e_189_51, e_189_54, e_189_55, e_189_56, e_189_59, e_189_60, e_189_63, e_189_64, e_189_65, e_189_68, e_189_71, e_189_72, e_189_73, e_189_76, e_189_77, e_189_78, e_189_80, e_189_83, e_189_84, e_189_87, e_189_88, e_189_89, e_189_92, e_189_95, e_189_96, e_189_98, e_189_101, e_189_104, e_189_105, e_189_108, e_189_109, e_189_110, e_189_113, e_189_114, e_189_115, e_189_116, e_189_119, e_189_122, e_189_123, e_189_124, e_189_125, e_189_128, e_189_129, e_189_130, e_189_131, e_189_132, e_189_133, e_189_134, e_189_135, e_189_136, e_189_139, e_189_140, e_189_143, e_189_144, e_189_145, Option.bind_some, Option.bind_none, m_kt, m_kn, Option.toList_some, Option.toList_none, List.nil_append, List.cons_append, List.append_nil, ltn, ite_not, ↓reduceIte, true_or, or_true, nP1, oI_s, oI_n, bI_f, bI_t, i1_0, i0_0, Bool.false_eq_true, not_true_eq_false, not_false_eq_true, c1, gM1 (H1 _).1, gM3 (H1 _).1, ai_n (k69 _) (show k < 1264 by omega) (by decide), s1, cpN_s]
    exact ih (k + 1) (by omega)
theorem copy_run (O : mO) (d : Nat) {s : mH} {q : Nat → Int32} {V F : WD} (H : MS s q V) (e69 : s.1[69]? = some (aI 1264 F)) : ∀ n k, k + n = 1264 → ev O (d) 189 7 [.ref 66, .int (nI k), mJ] [] ((s.1.set 69 (aI 1264 (cpN V F k)), s.2) : mH) = ev O (d) 189 32 [.ref 66, .int (nI 1264), mJ] [] ((s.1.set 69 (aI 1264 (cpN V F 1264)), s.2) : mH) := by
  have H1 : ∀ U, MS ((s.1.set 69 (aI 1264 U), s.2) : mH) q V := fun U => ⟨(hne (by decide)).trans H.1, (hne (by decide)).trans H.2⟩
  have s69 : ∀ J j x, j < 1264 → m_si ((s.1.set 69 (aI 1264 J), s.2) : mH) 69 (nI j) x = some (s.1.set 69 (aI 1264 (upd J j x)), s.2) := fun J j x hj => by
    rw [si_n (hget e69) hj (by decide)]; simp only [List.set_set]
  intro n
  induction n with
  | zero =>
    intro k hk
    rw [show k = 1264 by omega, e_189_7]
    simp only [e_189_0, e_189_1, e_189_2, e_189_5, e_189_6, e_189_8, e_189_11, e_189_14, e_189_15, e_189_18, e_189_19, e_189_20, e_189_23, e_189_24, e_189_25, e_189_26, e_189_29, e_189_33, e_189_34, e_189_37, e_189_38, e_189_39, e_189_40, e_189_43, e_189_44, e_189_47, e_189_50, e_189_51, e_189_54, e_189_55, e_189_56, e_189_59, e_189_60, e_189_63, e_189_64, e_189_65, e_189_68, e_189_71, e_189_72, e_189_73, e_189_76, e_189_77, e_189_78, e_189_80, e_189_83, e_189_84, e_189_87, e_189_88, e_189_89, e_189_92, e_189_95, e_189_96, e_189_97, e_189_98, e_189_101, e_189_104, e_189_105, e_189_108, e_189_109, e_189_110, e_189_113, e_189_114, e_189_115, e_189_116, e_189_119, e_189_122, e_189_123, e_189_124, e_189_125, e_189_128, e_189_129, e_189_130, e_189_131, e_189_132, e_189_133, e_189_134, e_189_135, e_189_136, e_189_139, e_189_140, e_189_143, e_189_144, e_189_145, Option.bind_some, Option.bind_none, m_kt, m_kn, Option.toList_some, Option.toList_none, List.nil_append, List.cons_append, List.append_nil, ltn, ite_not, ↓reduceIte, true_or, or_true, nP1, oI_s, oI_n, bI_f, bI_t, i1_0, i0_0, Bool.false_eq_true, not_true_eq_false, not_false_eq_true, (show ((1264 : Int32) ≤ nI 1264) = True by decide)]
  | succ n ih =>
    intro k hk
    have c1 : ¬ (1264 : Int32) ≤ nI k := nI_ge (b := 1264) (by omega) (by omega)
    rw [e_189_7]
    simp only [e_189_0, e_189_1, e_189_2, e_189_5, e_189_6, e_189_8, e_189_11, e_189_14, e_189_15, e_189_18, e_189_19, e_189_20, e_189_23, e_189_24, e_189_25, e_189_26, e_189_29, e_189_33, e_189_34, e_189_37, e_189_38, e_189_39, e_189_40, e_189_43, e_189_44, e_189_47, e_189_50, e_189_51, e_189_54, e_189_55, e_189_56, e_189_59, e_189_60, e_189_63, e_189_64, e_189_65, e_189_68, e_189_71, e_189_72, e_189_73, e_189_76, e_189_77, e_189_78, e_189_80, e_189_83, e_189_84, e_189_87, e_189_88, e_189_89, e_189_92, e_189_95, e_189_96, e_189_97, e_189_98, e_189_101, e_189_104, e_189_105, e_189_108, e_189_109, e_189_110, e_189_113, e_189_114, e_189_115, e_189_116, e_189_119, e_189_122, e_189_123, e_189_124, e_189_125, e_189_128, e_189_129, e_189_130, e_189_131, e_189_132, e_189_133, e_189_134, e_189_135, e_189_136, e_189_139, e_189_140, e_189_143, e_189_144, e_189_145, Option.bind_some, Option.bind_none, m_kt, m_kn, Option.toList_some, Option.toList_none, List.nil_append, List.cons_append, List.append_nil, ltn, ite_not, ↓reduceIte, true_or, or_true, nP1, oI_s, oI_n, bI_f, bI_t, i1_0, i0_0, Bool.false_eq_true, not_true_eq_false, not_false_eq_true, c1, gM1 (H1 _).1, gM3 (H1 _).1, (H1 _).w.w (show k < 2101 by omega), s69 _ k _ (show k < 1264 by omega), cpN_s]
    exact ih (k + 1) (by omega)
theorem cp_e {F V : WD} {n i : Nat} (h : i < n) : cpN F V n i = F i := if_pos h
theorem Mcity_ev (O : mO) (d : Nat) (X : MTX O) (H : MS h m W) {l : Nat} {B : Nat → Int32} (h8 : m 8 = nI l) (hl : l ≤ 400) (e71 : h.1[71]? = some (aB 400 B)) (G : rng W) {F : WD} (e69 : h.1[69]? = some (aI 1264 F)) : ∃ h' m' W' F' v, ev O (d + 11) 189 0 [.ref 66, mJ, mJ] [] h = some (.inl (some (.int (v))), h') ∧ MS h' m' W' ∧ h'.1[69]? = some (aI 1264 F') ∧ out CMc h h' ∧ m' 8 = 0 ∧ m' 4 = m 4 ∧ CTm (ctS B l W) W m m' W' v := by
  have H0 := H.t 0
  have t69 : (tH h m 0).1[69]? = some (aI 1264 F) := (hne (by decide)).trans e69
  let F1 : WD := cpN W F 1264
  let h1 : mH := ((tH h m 0).1.set 69 (aI 1264 F1), (tH h m 0).2)
  have e0 : ev O (d + 11) 189 0 [.ref 66, mJ, mJ] [] h = ev O (d + 11) 189 32 [.ref 66, .int (nI 1264), mJ] [] h1 := by
    have := copy_run O (d + 11) H0 t69 1264 0 (by omega)
    rw [cpN_0, hset t69, nI_0] at this
    simp only [e_189_0, e_189_1, e_189_2, e_189_5, e_189_6, e_189_8, e_189_11, e_189_14, e_189_15, e_189_18, e_189_19, e_189_20, e_189_23, e_189_24, e_189_25, e_189_26, e_189_29, e_189_33, e_189_34, e_189_37, e_189_38, e_189_39, e_189_40, e_189_43, e_189_44, e_189_47, e_189_50, e_189_51, e_189_54, e_189_55, e_189_56, e_189_59, e_189_60, e_189_63, e_189_64, e_189_65, e_189_68, e_189_71, e_189_72, e_189_73, e_189_76, e_189_77, e_189_78, e_189_80, e_189_83, e_189_84, e_189_87, e_189_88, e_189_89, e_189_92, e_189_95, e_189_96, e_189_97, e_189_98, e_189_101, e_189_104, e_189_105, e_189_108, e_189_109, e_189_110, e_189_113, e_189_114, e_189_115, e_189_116, e_189_119, e_189_122, e_189_123, e_189_124, e_189_125, e_189_128, e_189_129, e_189_130, e_189_131, e_189_132, e_189_133, e_189_134, e_189_135, e_189_136, e_189_139, e_189_140, e_189_143, e_189_144, e_189_145, Option.bind_some, Option.bind_none, m_kt, m_kn, Option.toList_some, Option.toList_none, List.nil_append, List.cons_append, List.append_nil, ltn, ite_not, ↓reduceIte, true_or, or_true, nP1, oI_s, oI_n, bI_f, bI_t, i1_0, i0_0, Bool.false_eq_true, not_true_eq_false, not_false_eq_true, pMt H]
    exact this
  have H1 : MS h1 (upd m 0 0) W := ⟨(hne (by decide)).trans H0.1, (hne (by decide)).trans H0.2⟩
  have k69 : h1.1[69]? = some (aI 1264 F1) := hget t69
  have k71 : h1.1[71]? = some (aB 400 B) := ((hne (by decide)).trans (hne (by decide))).trans e71
  have o1 : out CMc h h1 := (out.st h _ (.inl rfl)).tr1 (out.st (tH h m 0) _ (.inr (.inr rfl)))
  have ra := readAllC_ev O d X H1 (show upd m 0 0 8 = nI l from h8) hl k71 G
  have R : RZ h1 (mRA (upd m 0 0)) l B := ⟨⟨_, H1.1⟩, ⟨W, H1.2⟩, k71, h8, hl⟩
  have z69 : ∀ {p b dp st : Int32} {V : WD}, (hz h1 (mRA (upd m 0 0)) p b dp st V).1[69]? = some (aI 1264 F1) := ((hne (by decide)).trans (hne (by decide))).trans k69
  have zo : ∀ {p b dp st : Int32} {V : WD}, out CMc h (hz h1 (mRA (upd m 0 0)) p b dp st V) := fun {p b dp st V} => by
    refine o1.tr1 ⟨rfl, by unfold hz; simp, fun b hb => ?_⟩
    exact (hne (fun e : 67 = b => hb (.inr (.inl e.symm)))).trans (hne (fun e : 66 = b => hb (.inl e.symm)))
  rw [e0]
  cases e : ctS B l W with
  | inl f =>
    rw [e] at ra
    obtain ⟨p', V', ra⟩ := ra
    let s := hz h1 (mRA (upd m 0 0)) p' (nI f) (upd m 0 0 12) 0 V'
    let q := upd (mz5 (mRA (upd m 0 0)) p' (nI f) (upd m 0 0 12) 0) 13 (nI f)
    let s2 : mH := (s.1.set 66 (oM q), s.2)
    have M2 : MS s2 q V' := ⟨hget (Z66 R), (hne (by decide)).trans (ZMS R).2⟩
    have M3 := M2.t 1
    have p13 : m_pf (hz h1 (mRA (upd m 0 0)) p' (nI f) (upd m 0 0 12) 0 V') 66 8 13 (.int (nI f)) = some s2 := pM13 (Z66 R) _
    have e93 : (tH s2 q 1).1[69]? = some (aI 1264 F1) := ((hne (by decide)).trans (hne (by decide))).trans z69
    have rr := rest_run O (d + 11) M3 e93 (-1) 1264 0 (by omega)
    rw [cpN_0, hT_id M3, nI_0] at rr
    refine ⟨hT (tH s2 q 1) (cpN F1 V' 1264), upd q 0 1, cpN F1 V' 1264, F1, 0, ?_, hT_MS M3 _, (hne (by decide)).trans e93, ?_, rfl, rfl, rfl, rfl, rfl, fun i hi => ?_⟩
    · simp only [e_189_0, e_189_1, e_189_2, e_189_5, e_189_6, e_189_8, e_189_11, e_189_14, e_189_15, e_189_18, e_189_19, e_189_20, e_189_23, e_189_24, e_189_25, e_189_26, e_189_29, e_189_32, e_189_33, e_189_34, e_189_37, e_189_38, e_189_39, e_189_40, e_189_43, e_189_44, e_189_47, e_189_50, e_189_51, e_189_54, e_189_55, e_189_56, e_189_59, e_189_60, e_189_63, e_189_64, e_189_65, e_189_68, e_189_71, e_189_72, e_189_73, e_189_76, e_189_77, e_189_78, e_189_80, e_189_83, e_189_84, e_189_87, e_189_88, e_189_89, e_189_92, e_189_95, e_189_96, e_189_98, e_189_101, e_189_104, e_189_105, e_189_108, e_189_109, e_189_110, e_189_113, e_189_114, e_189_115, e_189_116, e_189_119, e_189_122, e_189_123, e_189_124, e_189_125, e_189_128, e_189_129, e_189_130, e_189_131, e_189_132, e_189_133, e_189_134, e_189_135, e_189_136, e_189_139, e_189_140, e_189_143, e_189_144, e_189_145, Option.bind_some, Option.bind_none, m_kt, m_kn, Option.toList_some, Option.toList_none, List.nil_append, List.cons_append, List.append_nil, ltn, ite_not, ↓reduceIte, true_or, or_true, nP1, oI_s, oI_n, bI_f, bI_t, i1_0, i0_0, Bool.false_eq_true, not_true_eq_false, not_false_eq_true, H1.isc, ra, m1_0, gz11 R, p13, M2.isc, thr1_ev O (d + 10) M2]
      exact rr
    · exact ((zo.tr1 (out.st s _ (.inl rfl))).tr1 (out.st s2 _ (.inl rfl))).tr1 (out.st (tH s2 q 1) _ (.inr (.inl rfl)))
    · rw [cp_e hi]; exact cp_e hi
  | inr V =>
    rw [e] at ra
    obtain ⟨n, p', b', hn, ra⟩ := ra
    have n0 := n0le (n := n) (by omega)
    have v3 : V 3 = W 3 := ctS_hi G e (by omega)
    let s := hz h1 (mRA (upd m 0 0)) p' b' (upd m 0 0 12) 0 V
    let q := upd (mz5 (mRA (upd m 0 0)) p' b' (upd m 0 0 12) 0) 13 (-1)
    let s2 : mH := (s.1.set 66 (oM q), s.2)
    have M2 : MS s2 q V := ⟨hget (Z66 R), (hne (by decide)).trans (ZMS R).2⟩
    have p13 : m_pf (hz h1 (mRA (upd m 0 0)) p' b' (upd m 0 0 12) 0 V) 66 8 13 (.int (-1)) = some s2 := pM13 (Z66 R) _
    have e92 : s2.1[69]? = some (aI 1264 F1) := (hne (by decide)).trans z69
    have w3 : m_ai s2 67 3 = some (W 3) := by rw [M2.w.w3, v3]
    by_cases c : W 3 = 10
    · have M3 := M2.t 2
      have e93 : (tH s2 q 2).1[69]? = some (aI 1264 F1) := (hne (by decide)).trans e92
      have rr := rest_run O (d + 11) M3 e93 (nI n) 1264 0 (by omega)
      rw [cpN_0, hT_id M3, nI_0] at rr
      refine ⟨hT (tH s2 q 2) (cpN F1 V 1264), upd q 0 2, cpN F1 V 1264, F1, 0, ?_, hT_MS M3 _, (hne (by decide)).trans e93, ?_, rfl, rfl, rfl, .inl ⟨c, rfl, rfl, fun i hi => ?_⟩⟩
      · simp only [e_189_0, e_189_1, e_189_2, e_189_5, e_189_6, e_189_8, e_189_11, e_189_14, e_189_15, e_189_18, e_189_19, e_189_20, e_189_23, e_189_24, e_189_25, e_189_26, e_189_29, e_189_32, e_189_33, e_189_34, e_189_37, e_189_38, e_189_39, e_189_40, e_189_43, e_189_44, e_189_47, e_189_50, e_189_51, e_189_54, e_189_55, e_189_56, e_189_59, e_189_60, e_189_63, e_189_64, e_189_65, e_189_68, e_189_71, e_189_72, e_189_73, e_189_76, e_189_77, e_189_78, e_189_80, e_189_83, e_189_84, e_189_87, e_189_88, e_189_89, e_189_92, e_189_95, e_189_96, e_189_98, e_189_101, e_189_104, e_189_105, e_189_108, e_189_109, e_189_110, e_189_113, e_189_114, e_189_115, e_189_116, e_189_119, e_189_122, e_189_123, e_189_124, e_189_125, e_189_128, e_189_129, e_189_130, e_189_131, e_189_132, e_189_133, e_189_134, e_189_135, e_189_136, e_189_139, e_189_140, e_189_143, e_189_144, e_189_145, Option.bind_some, Option.bind_none, m_kt, m_kn, Option.toList_some, Option.toList_none, List.nil_append, List.cons_append, List.append_nil, ltn, ite_not, ↓reduceIte, true_or, or_true, nP1, oI_s, oI_n, bI_f, bI_t, i1_0, i0_0, Bool.false_eq_true, not_true_eq_false, not_false_eq_true, H1.isc, ra, n0, p13, M2.isc, thr0_ev O (d + 10) M2, gM1 M2.1, w3, c, thr1_ev O (d + 10) M2]
        exact rr
      · exact ((zo.tr1 (out.st s _ (.inl rfl))).tr1 (out.st s2 _ (.inl rfl))).tr1 (out.st (tH s2 q 2) _ (.inr (.inl rfl)))
      · rw [cp_e hi]; exact cp_e hi
    · have s3 : m_si s2 67 3 (W 3 + 1) = some (hT s2 (upd V 3 (W 3 + 1))) := hT_s M2 (show 3 < 2101 by omega) _
      have M3 := hT_MS M2 (upd V 3 (W 3 + 1))
      have M4 : MS (((hT s2 (upd V 3 (W 3 + 1))).1.set 66 (oM (upd q 6 0)), (hT s2 (upd V 3 (W 3 + 1))).2) : mH) (upd q 6 0) (upd V 3 (W 3 + 1)) := ⟨hget M3.1, (hne (by decide)).trans M3.2⟩
      have w4 : m_ai (((hT s2 (upd V 3 (W 3 + 1))).1.set 66 (oM (upd q 6 0)), (hT s2 (upd V 3 (W 3 + 1))).2) : mH) 67 3 = some (W 3 + 1) := M4.w.w3
      refine ⟨_, upd q 6 0, upd V 3 (W 3 + 1), F1, W 3 + 1, ?_, M4, ((hne (by decide)).trans (hne (by decide))).trans e92, ?_, rfl, rfl, rfl, .inr ⟨c, rfl, rfl, rfl, rfl⟩⟩
      · simp only [e_189_0, e_189_1, e_189_2, e_189_5, e_189_6, e_189_8, e_189_11, e_189_14, e_189_15, e_189_18, e_189_19, e_189_20, e_189_23, e_189_24, e_189_25, e_189_26, e_189_29, e_189_32, e_189_33, e_189_34, e_189_37, e_189_38, e_189_39, e_189_40, e_189_43, e_189_44, e_189_47, e_189_50, e_189_51, e_189_54, e_189_55, e_189_56, e_189_59, e_189_60, e_189_63, e_189_64, e_189_65, e_189_68, e_189_71, e_189_72, e_189_73, e_189_76, e_189_77, e_189_78, e_189_80, e_189_83, e_189_84, e_189_87, e_189_88, e_189_89, e_189_92, e_189_95, e_189_96, e_189_98, e_189_101, e_189_104, e_189_105, e_189_108, e_189_109, e_189_110, e_189_113, e_189_114, e_189_115, e_189_116, e_189_119, e_189_122, e_189_123, e_189_124, e_189_125, e_189_128, e_189_129, e_189_130, e_189_131, e_189_132, e_189_133, e_189_134, e_189_135, e_189_136, e_189_139, e_189_140, e_189_143, e_189_144, e_189_145, Option.bind_some, Option.bind_none, m_kt, m_kn, Option.toList_some, Option.toList_none, List.nil_append, List.cons_append, List.append_nil, ltn, ite_not, ↓reduceIte, true_or, or_true, nP1, oI_s, oI_n, bI_f, bI_t, i1_0, i0_0, Bool.false_eq_true, not_true_eq_false, not_false_eq_true, H1.isc, ra, n0, p13, M2.isc, thr0_ev O (d + 10) M2, gM1 M2.1, w3, c, cat_ref, cat_int, and_self, s3, pM6 M3.1, gM1 M4.1, w4]
      · exact ((zo.tr1 (out.st s _ (.inl rfl))).tr1 (out.st s2 _ (.inr (.inl rfl)))).tr1 (out.st (hT s2 (upd V 3 (W 3 + 1))) _ (.inl rfl))
end McityS
