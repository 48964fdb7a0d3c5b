/-! The class reads a text of the city: size, cart, a line, all lines -/
theorem oC_congr {a : Nat} {n n' : Nat → Int32} (h : ∀ k, (k ≤ 5 ∨ k = 12 ∨ k = 14 ∨ k = 16 ∨ k = 17) → n k = n' k) : oC a n = oC a n' := by
  unfold oC
  rw [h 0 (by omega), h 1 (by omega), h 2 (by omega), h 3 (by omega), h 4 (by omega), h 5 (by omega), h 12 (by omega), h 14 (by omega), h 16 (by omega), h 17 (by omega)]
theorem LR_mono {r : Option mR} {h h1 : mH} {l a : Nat} {s : Nat ⊕ (WD × Nat)} (o : out (TZ a) h h1) (L : LR r h1 l a s) : LR r h l a s := by
  unfold LR at *
  cases s with
  | inl f => obtain ⟨h', p', t', a1, a2, a3, a4⟩ := L; exact ⟨h', p', t', a1, a2, a3, o.tr1 a4⟩
  | inr x => obtain ⟨h', t', a1, a2, a3, a4⟩ := L; exact ⟨h', t', a1, a2, a3, o.tr1 a4⟩
theorem LR_bind {r : Option mR} {h : mH} {l a : Nat} {s : Nat ⊕ (WD × Nat)} (L : LR r h l a s) {f : Option Value → mH → Option mR} (hf : ∀ (x : Int32) (h' : mH), (x = 0 ∨ x = 1) → f (some (.int x)) h' = some (.inl (some (.int (x))), h')) : LR (r.bind (m_kt f)) h l a s := by
  unfold LR at *
  cases s with
  | inl e => obtain ⟨h', p', t', a1, a2, a3, a4⟩ := L; exact ⟨h', p', t', by rw [a1]; exact hf 0 h' (.inl rfl), a2, a3, a4⟩
  | inr x => obtain ⟨h', t', a1, a2, a3, a4⟩ := L; exact ⟨h', t', by rw [a1]; exact hf 1 h' (.inr rfl), a2, a3, a4⟩
def CTX (O : mO) : Prop := TX O 2 w_size ∧ TX O 4 w_thick ∧ TX O 6 w_heat ∧ TX O 8 w_cold ∧ TX O 10 w_sand ∧ TX O 12 w_owner ∧ TX O 14 w_lamp ∧ TX O 16 w_cart ∧ TX O 18 w_to ∧ TX O 20 w_felt
section CityR
variable {h : mH} {l p a : Nat} {t : Int32} {B : Nat → Int32} {W : WD}
theorem readSize_ev (O : mO) (d : Nat) (K : h.1[49]? = some (oT (nI l) (nI p) t (-1))) (e50 : h.1[50]? = some (aB 400 B)) (hl : l ≤ 400) (hpl : p ≤ l) (H : CA h a W) (ha : a < 28) : LR (ev O (d + 2) 18 0 [.ref 49, .ref a, mJ, mJ] [] h) h l a (szS B l W p) := by
  unfold szS nmS
  cases e1 : num B l p 1 6 with
  | none =>
    refine ⟨hp h l (sb B l p) t (nI (sb B l p)), nI (sb B l p), t, ?_, hp_at K _ _ _, ⟨W, CA_hp H ha _ _ _⟩, hp_out _ _ _⟩
    simp only [e_18_0, e_18_1, e_18_2, e_18_4, e_18_7, e_18_8, e_18_9, e_18_10, e_18_13, e_18_14, e_18_15, e_18_16, e_18_17, e_18_18, e_18_21, e_18_22, e_18_23, e_18_24, e_18_27, e_18_28, e_18_29, e_18_30, e_18_31, e_18_32, e_18_35, e_18_36, Option.bind_some, Option.bind_none, m_kt, m_kn, Option.toList_some, Option.toList_none, List.nil_append, List.cons_append, List.append_nil, ltn, ite_not, ↓reduceIte, true_or, or_true, nP1, oI_s, oI_n, bI_f, bI_t, i1_0, i0_0, Bool.false_eq_true, not_true_eq_false, not_false_eq_true, iscT K, takeNumber_ev O (d + 1 - 1) K e50 hl hpl, takeNumber_ev O d K e50 hl hpl, e1, Option.elim_none, z01]
  | some x =>
    obtain ⟨x1, x2, x3⟩ := nm_num e1 (by decide)
    have K1 := hp_at K x.2 t (-1)
    have E1 := hp_50 (l := l) e50 x.2 t (-1)
    simp only [Option.elim_some, sbd_r]
    cases e2 : num B l x.2 1 5 with
    | none =>
      refine ⟨hp h l (sb B l x.2) t (nI (sb B l x.2)), nI (sb B l x.2), t, ?_, hp_at K _ _ _, ⟨W, CA_hp H ha _ _ _⟩, hp_out _ _ _⟩
      simp only [e_18_0, e_18_1, e_18_2, e_18_4, e_18_7, e_18_8, e_18_9, e_18_10, e_18_13, e_18_14, e_18_15, e_18_16, e_18_17, e_18_18, e_18_21, e_18_22, e_18_23, e_18_24, e_18_27, e_18_28, e_18_29, e_18_30, e_18_31, e_18_32, e_18_35, e_18_36, Option.bind_some, Option.bind_none, m_kt, m_kn, Option.toList_some, Option.toList_none, List.nil_append, List.cons_append, List.append_nil, ltn, ite_not, ↓reduceIte, true_or, or_true, nP1, oI_s, oI_n, bI_f, bI_t, i1_0, i0_0, Bool.false_eq_true, not_true_eq_false, not_false_eq_true, iscT K, takeNumber_ev O d K e50 hl hpl, e1, Option.elim_some, x1, iscT K1, takeNumber_ev O d K1 E1 hl x2, e2, Option.elim_none, hp_hp, z01]
    | some y =>
      obtain ⟨y1, y2, y3⟩ := nm_num e2 (by decide)
      have b1 := (nmS_bd (x := x) (p := p) (lo := 1) (hi := 6) (by unfold nmS; rw [e1]; rfl)).2.2.1
      have b2 := (nmS_bd (x := y) (p := x.2) (lo := 1) (hi := 5) (by unfold nmS; rw [e2]; rfl)).2.2.1
      have H2 := CA_hp (l := l) H ha y.2 t (-1)
      obtain ⟨h', s1, s2, s3⟩ := lay_CA O d H2 b1 b2
      simp only [Option.elim_some, sbd_r]
      refine ⟨h', t, ?_, (s3.2.2 49 (by unfold CB; omega)).trans (hp_at K _ _ _), s2, (hp_out _ _ _).tr1 (s3.mo (fun b q => .inr q))⟩
      simp only [e_18_0, e_18_1, e_18_2, e_18_4, e_18_7, e_18_8, e_18_9, e_18_10, e_18_13, e_18_14, e_18_15, e_18_16, e_18_17, e_18_18, e_18_21, e_18_22, e_18_23, e_18_24, e_18_27, e_18_28, e_18_29, e_18_30, e_18_31, e_18_32, e_18_35, e_18_36, Option.bind_some, Option.bind_none, m_kt, m_kn, Option.toList_some, Option.toList_none, List.nil_append, List.cons_append, List.append_nil, ltn, ite_not, ↓reduceIte, true_or, or_true, nP1, oI_s, oI_n, bI_f, bI_t, i1_0, i0_0, Bool.false_eq_true, not_true_eq_false, not_false_eq_true, iscT K, takeNumber_ev O d K e50 hl hpl, e1, Option.elim_some, x1, iscT K1, takeNumber_ev O d K1 E1 hl x2, e2, hp_hp, y1, H2.isc, s1, o01]
theorem LR_num {r : Option mR} {f : Nat} (K : h.1[49]? = some (oT (nI l) (nI p) t (-1))) (H : CA h a W) (ha : a < 28) {q : Nat} (e : r = some (.inl (some (.int (0))), hp h l q t (nI f))) : LR r h l a (.inl f) := ⟨hp h l q t (nI f), nI q, t, e, hp_at K _ _ _, ⟨W, CA_hp H ha _ _ _⟩, hp_out _ _ _⟩
theorem n12le {k : Nat} (hk : k ≤ 12) : ((12 : Int32) ≤ nI k) = (k = 12) := by
  have := nLe (a := 12) (b := k) (by omega) (by omega)
  rw [show (12 : Int32) = nI 12 from rfl, this]
  exact propext ⟨fun q => by omega, fun q => by omega⟩
theorem cart_fin (O : mO) (d : Nat) (X : TX O 20 w_felt) (K : h.1[49]? = some (oT (nI l) (nI p) t (-1))) (e50 : h.1[50]? = some (aB 400 B)) (hl : l ≤ 400) (hpl : p ≤ l) (H : CA h a W) (R : rng W) (ha : a < 28) (hk : kN W < 12) (w c f u : Int32) {ci : Nat} (ec : c = nI ci) : ∃ h' t', ev O (d + 6) 21 77 [.ref 49, .ref a, .int w, .int c, .int f, .int u, mJ] [] h = some (.inl (some (.int (1))), h') ∧ h'.1[49]? = some (oT (nI l) (nI (if wd B l (sb B l p) w_felt = true then sb B l p + 4 else sb B l p)) t' (-1)) ∧ CA h' a (krW W w ci f u (bI (wd B l (sb B l p) w_felt))) ∧ out (TZ a) h h' := by
  obtain ⟨g, e7, q7⟩ := H.2.2.1
  let g4 : Nat → Int32 := upd (upd (upd (upd g (5 * kN W) w) (5 * kN W + 1) c) (5 * kN W + 2) f) (5 * kN W + 3) u
  let s1 : mH := (h.1.set (a + 7) (aI 60 g4), h.2)
  have K1 : s1.1[49]? = some (oT (nI l) (nI p) t (-1)) := (hne (by omega)).trans K
  have E1 : s1.1[50]? = some (aB 400 B) := (hne (by omega)).trans e50
  have e71 : s1.1[a + 7]? = some (aI 60 g4) := hget e7
  have C0 : ∀ g', ((h.1.set (a + 7) (aI 60 g'), h.2) : mH).1[a]? = some (oC a (fN W)) := fun g' => (hne (by omega)).trans H.1
  have gf13 : ∀ g', m_gf ((h.1.set (a + 7) (aI 60 g'), h.2) : mH) a 0 13 = some (.ref (a + 7)) := fun g' => by simp only [m_gf, C0 g', oC]; rfl
  have st : ∀ g' j x, j < 60 → m_si ((h.1.set (a + 7) (aI 60 g'), h.2) : mH) (a + 7) (nI j) x = some (h.1.set (a + 7) (aI 60 (upd g' j x)), h.2) := fun g' j x hj => by
    rw [si_n (hget e7) hj (by decide)]; simp only [List.set_set]
  have st0 : ∀ j x, j < 60 → m_si h (a + 7) (nI j) x = some (h.1.set (a + 7) (aI 60 (upd g j x)), h.2) := fun j x hj => si_n e7 hj (by decide) x
  obtain ⟨q, t', tw, hq⟩ : ∃ q t', ev O (d + 5) 82 0 [.ref 49, .retAddr 20, mJ, mJ] [] s1 = some (.inl (some (.int (bI (wd B l (sb B l p) w_felt)))), hp s1 l q t' (-1)) ∧ q = (if wd B l (sb B l p) w_felt = true then sb B l p + 4 else sb B l p) := by
    have := takeWord_ev O d K1 E1 hl hpl X l_felt
    cases z : wd B l (sb B l p) w_felt
    · rw [z] at this; exact ⟨_, _, this, rfl⟩
    · rw [z] at this; exact ⟨_, _, this, rfl⟩
  have tw : ev O (d + 5) 82 0 [.ref 49, .retAddr 20, mJ, mJ] [] ((h.1.set (a + 7) (aI 60 (upd (upd (upd (upd g (5 * kN W) w) (5 * kN W + 1) c) (5 * kN W + 2) f) (5 * kN W + 3) u)), h.2) : mH) = some (.inl (some (.int (bI (wd B l (sb B l p) w_felt)))), hp s1 l q t' (-1)) := tw
  let g5 : Nat → Int32 := upd g4 (5 * kN W + 4) (bI (wd B l (sb B l p) w_felt))
  let s2 : mH := hp s1 l q t' (-1)
  let s3 : mH := (s2.1.set (a + 7) (aI 60 g5), s2.2)
  have k2 : s2.1[a + 7]? = some (aI 60 g4) := (hne (by omega)).trans e71
  have w2 : m_si s2 (a + 7) (nI (5 * kN W + 4)) (bI (wd B l (sb B l p) w_felt)) = some s3 := si_n k2 (by omega) (by decide) _
  have c3 : s3.1[a]? = some (oC a (fN W)) := ((hne (by omega)).trans (hne (by omega))).trans (C0 g4)
  have g3 : m_gf s3 a 0 12 = some (.int (nI (kN W))) := by
    simp only [m_gf, c3, oC, ↓reduceIte]
    show some (Value.int (W 2)) = _
    rw [rW2 R]
  have p3 : m_pf s3 a 0 12 (.int (nI (kN W + 1))) = some (s3.1.set a (oC a (upd (fN W) 12 (nI (kN W + 1)))), s3.2) := by simp only [m_pf, c3]; rfl
  have w2a : m_si (hp s1 l q t' (-1)) (a + 7) (nI (5 * kN W + 4)) 0 = some s3 ∨ wd B l (sb B l p) w_felt = true := by
    cases z : wd B l (sb B l p) w_felt
    · left; rw [z] at w2; exact w2
    · right; rfl
  have gk : m_gf h a 0 12 = some (.int (nI (kN W))) := by rw [gC12 H, rW2 R]
  obtain ⟨n0, n1, n2, -⟩ := krW_n (w := w) (f := f) (t := u) (e := bI (wd B l (sb B l p) w_felt)) (c := ci) hk
  refine ⟨(s3.1.set a (oC a (upd (fN W) 12 (nI (kN W + 1)))), s3.2), t', ?_, ?_, ⟨?_, fun k hk' => ?_, ?_, ?_⟩, ?_⟩
  · cases z : wd B l (sb B l p) w_felt
    · have w2 : m_si (hp s1 l q t' (-1)) (a + 7) (nI (5 * kN W + 4)) 0 = some s3 := by rw [z] at w2; exact w2
      have tw := tw
      rw [z] at tw
      simp only [e_21_0, e_21_1, e_21_2, e_21_5, e_21_8, e_21_9, e_21_10, e_21_11, e_21_14, e_21_15, e_21_16, e_21_17, e_21_18, e_21_21, e_21_22, e_21_23, e_21_24, e_21_27, e_21_28, e_21_29, e_21_30, e_21_31, e_21_33, e_21_36, e_21_38, e_21_40, e_21_41, e_21_44, e_21_45, e_21_46, e_21_47, e_21_49, e_21_52, e_21_55, e_21_56, e_21_59, e_21_60, e_21_61, e_21_62, e_21_64, e_21_67, e_21_69, e_21_71, e_21_72, e_21_75, e_21_76, e_21_77, e_21_78, e_21_79, e_21_82, e_21_83, e_21_85, e_21_86, e_21_89, e_21_91, e_21_92, e_21_93, e_21_94, e_21_97, e_21_99, e_21_100, e_21_101, e_21_102, e_21_103, e_21_104, e_21_107, e_21_109, e_21_110, e_21_111, e_21_113, e_21_114, e_21_115, e_21_118, e_21_120, e_21_121, e_21_122, e_21_124, e_21_125, e_21_126, e_21_129, e_21_131, e_21_132, e_21_133, e_21_134, e_21_136, e_21_139, e_21_142, e_21_143, e_21_146, e_21_147, e_21_148, e_21_149, e_21_150, e_21_153, e_21_154, e_21_155, e_21_158, e_21_159, Option.bind_some, Option.bind_none, m_kt, m_kn, Option.toList_some, Option.toList_none, List.nil_append, List.cons_append, List.append_nil, ltn, ite_not, ↓reduceIte, true_or, or_true, nP1, oI_s, oI_n, bI_f, bI_t, i1_0, i0_0, Bool.false_eq_true, not_true_eq_false, not_false_eq_true, gk, n5, gC13 H, st0 _ _ (show 5 * kN W < 60 by omega), gf13, st _ _ _ (show 5 * kN W + 1 < 60 by omega), st _ _ _ (show 5 * kN W + 2 < 60 by omega), st _ _ _ (show 5 * kN W + 3 < 60 by omega), nP2, nP3, nP4, iscT (show ((h.1.set (a + 7) (aI 60 (upd (upd (upd (upd g (5 * kN W) w) (5 * kN W + 1) c) (5 * kN W + 2) f) (5 * kN W + 3) u)), h.2) : mH).1[49]? = _ from K1), tw, w2, cat_ref, g3, p3, o01]
    · have w2 : m_si (hp s1 l q t' (-1)) (a + 7) (nI (5 * kN W + 4)) 1 = some s3 := by rw [z] at w2; exact w2
      have tw := tw
      rw [z] at tw
      simp only [e_21_0, e_21_1, e_21_2, e_21_5, e_21_8, e_21_9, e_21_10, e_21_11, e_21_14, e_21_15, e_21_16, e_21_17, e_21_18, e_21_21, e_21_22, e_21_23, e_21_24, e_21_27, e_21_28, e_21_29, e_21_30, e_21_31, e_21_33, e_21_36, e_21_38, e_21_40, e_21_41, e_21_44, e_21_45, e_21_46, e_21_47, e_21_49, e_21_52, e_21_55, e_21_56, e_21_59, e_21_60, e_21_61, e_21_62, e_21_64, e_21_67, e_21_69, e_21_71, e_21_72, e_21_75, e_21_76, e_21_77, e_21_78, e_21_79, e_21_82, e_21_83, e_21_85, e_21_86, e_21_89, e_21_91, e_21_92, e_21_93, e_21_94, e_21_97, e_21_99, e_21_100, e_21_101, e_21_102, e_21_103, e_21_104, e_21_107, e_21_109, e_21_110, e_21_111, e_21_113, e_21_114, e_21_115, e_21_118, e_21_120, e_21_121, e_21_122, e_21_124, e_21_125, e_21_126, e_21_129, e_21_131, e_21_132, e_21_133, e_21_134, e_21_136, e_21_139, e_21_142, e_21_143, e_21_146, e_21_147, e_21_148, e_21_149, e_21_150, e_21_153, e_21_154, e_21_155, e_21_158, e_21_159, Option.bind_some, Option.bind_none, m_kt, m_kn, Option.toList_some, Option.toList_none, List.nil_append, List.cons_append, List.append_nil, ltn, ite_not, ↓reduceIte, true_or, or_true, nP1, oI_s, oI_n, bI_f, bI_t, i1_0, i0_0, Bool.false_eq_true, not_true_eq_false, not_false_eq_true, gk, n5, gC13 H, st0 _ _ (show 5 * kN W < 60 by omega), gf13, st _ _ _ (show 5 * kN W + 1 < 60 by omega), st _ _ _ (show 5 * kN W + 2 < 60 by omega), st _ _ _ (show 5 * kN W + 3 < 60 by omega), nP2, nP3, nP4, iscT (show ((h.1.set (a + 7) (aI 60 (upd (upd (upd (upd g (5 * kN W) w) (5 * kN W + 1) c) (5 * kN W + 2) f) (5 * kN W + 3) u)), h.2) : mH).1[49]? = _ from K1), tw, w2, cat_ref, g3, p3, o01]
  · rw [← hq]
    exact ((hne (by omega)).trans (hne (by omega))).trans (hp_at K1 _ _ _)
  · refine (hget c3).trans (congrArg some (oC_congr fun k hk' => ?_))
    have np : pN (krW W w ci f u (bI (wd B l (sb B l p) w_felt))) = pN W := by unfold pN; rw [n0, n1]
    have hk2 : k = 0 ∨ k = 1 ∨ k = 2 ∨ k = 3 ∨ k = 4 ∨ k = 5 ∨ k = 12 ∨ k = 14 ∨ k = 16 ∨ k = 17 := by omega
    rcases hk2 with rfl | rfl | rfl | rfl | rfl | rfl | rfl | rfl | rfl | rfl
    · show nI (wN W) = nI (wN (krW _ _ _ _ _ _)); rw [n0]
    · show nI (gN W) = nI (gN (krW _ _ _ _ _ _)); rw [n1]
    · show nI (pN W) = nI (pN (krW _ _ _ _ _ _)); rw [np]
    · show allI (wN W) (gN W) = allI (wN (krW _ _ _ _ _ _)) (gN (krW _ _ _ _ _ _)); rw [n0, n1]
    · show lEd (wN W) (gN W) = lEd (wN (krW _ _ _ _ _ _)) (gN (krW _ _ _ _ _ _)); rw [n0, n1]
    · show rEd (wN W) (gN W) = rEd (wN (krW _ _ _ _ _ _)) (gN (krW _ _ _ _ _ _)); rw [n0, n1]
    · show nI (kN W + 1) = krW _ _ _ _ _ _ 2
      unfold krW; rw [pk_us]
    · show W 5 = krW _ _ _ _ _ _ 5; rw [krW_o (by omega)]
    · show W 6 = krW _ _ _ _ _ _ 6; rw [krW_o (by omega)]
    · show W 3 = krW _ _ _ _ _ _ 3; rw [krW_o (by omega)]
  · obtain ⟨f2, e2, q2⟩ := H.2.1 k hk'
    refine ⟨f2, ((((hne (by omega)).trans (hne (by omega))).trans (hne (by omega))).trans (hne (by omega))).trans e2, fun r hr => ?_⟩
    rw [krW_o (by omega)]; exact q2 r hr
  · refine ⟨g5, (hne (by omega)).trans (hget k2), fun i hi => ?_⟩
    rw [n2] at hi
    obtain ⟨k0, k1, k2, k3, k4⟩ := krW_k (W := W) (w := w) (f := f) (t := u) (e := bI (wd B l (sb B l p) w_felt)) (c := ci)
    by_cases z : i < 5 * kN W
    · rw [krW_o (by omega), ← q7 i z]
      show upd (upd (upd (upd (upd g _ _) _ _) _ _) _ _) _ _ i = g i
      rw [pk_un (by omega), pk_un (by omega), pk_un (by omega), pk_un (by omega), pk_un (by omega)]
    · have hi' : i = 5 * kN W ∨ i = 5 * kN W + 1 ∨ i = 5 * kN W + 2 ∨ i = 5 * kN W + 3 ∨ i = 5 * kN W + 4 := by omega
      show upd (upd (upd (upd (upd g _ _) _ _) _ _) _ _) _ _ i = _
      rcases hi' with rfl | rfl | rfl | rfl | rfl
      · rw [k0, pk_un (by omega), pk_un (by omega), pk_un (by omega), pk_un (by omega), pk_us]
      · rw [← Nat.add_assoc, k1, pk_un (by omega), pk_un (by omega), pk_un (by omega), pk_us, ec]
      · rw [← Nat.add_assoc, k2, pk_un (by omega), pk_un (by omega), pk_us]
      · rw [← Nat.add_assoc, k3, pk_un (by omega), pk_us]
      · rw [← Nat.add_assoc, k4, pk_us]
  · obtain ⟨f2, e2, q2⟩ := H.2.2.2
    refine ⟨f2, ((((hne (by omega)).trans (hne (by omega))).trans (hne (by omega))).trans (hne (by omega))).trans e2, fun i hi => ?_⟩
    rw [krW_o (by omega)]; exact q2 i hi
  · exact (((out.st h _ (.inr (by unfold CB; omega))).tr1 (hp_out _ _ _)).tr1 (out.st s2 _ (.inr (by unfold CB; omega)))).tr1 (out.st s3 _ (.inr (by unfold CB; omega)))
theorem readCart_ev (O : mO) (d : Nat) (X : CTX O) (K : h.1[49]? = some (oT (nI l) (nI p) t (-1))) (e50 : h.1[50]? = some (aB 400 B)) (hl : l ≤ 400) (hpl : p ≤ l) (H : CA h a W) (R : rng W) (ha : a < 28) (hk : kN W < 12) : LR (ev O (d + 6) 21 0 [.ref 49, .ref a, mJ, mJ, mJ, mJ, mJ] [] h) h l a (crS B l W p) := by
  obtain ⟨-, -, -, -, -, -, -, -, Xto, Xfe⟩ := X
  unfold crS
  unfold nmS
  cases e1 : num B l p 1 200 with
  | none =>
    refine LR_num K H ha (q := sb B l p) ?_
    simp only [e_21_0, e_21_1, e_21_2, e_21_5, e_21_8, e_21_9, e_21_10, e_21_11, e_21_14, e_21_15, e_21_16, e_21_17, e_21_18, e_21_21, e_21_22, e_21_23, e_21_24, e_21_27, e_21_28, e_21_29, e_21_30, e_21_31, e_21_33, e_21_36, e_21_38, e_21_40, e_21_41, e_21_44, e_21_45, e_21_46, e_21_47, e_21_49, e_21_52, e_21_55, e_21_56, e_21_59, e_21_60, e_21_61, e_21_62, e_21_64, e_21_67, e_21_69, e_21_71, e_21_72, e_21_75, e_21_76, e_21_77, e_21_78, e_21_79, e_21_82, e_21_83, e_21_85, e_21_86, e_21_89, e_21_91, e_21_92, e_21_93, e_21_94, e_21_97, e_21_99, e_21_100, e_21_101, e_21_102, e_21_103, e_21_104, e_21_107, e_21_109, e_21_110, e_21_111, e_21_113, e_21_114, e_21_115, e_21_118, e_21_120, e_21_121, e_21_122, e_21_124, e_21_125, e_21_126, e_21_129, e_21_131, e_21_132, e_21_133, e_21_134, e_21_136, e_21_139, e_21_142, e_21_143, e_21_146, e_21_147, e_21_148, e_21_149, e_21_150, e_21_153, e_21_154, e_21_155, e_21_158, e_21_159, Option.bind_some, Option.bind_none, m_kt, m_kn, Option.toList_some, Option.toList_none, List.nil_append, List.cons_append, List.append_nil, ltn, ite_not, ↓reduceIte, true_or, or_true, nP1, oI_s, oI_n, bI_f, bI_t, i1_0, i0_0, Bool.false_eq_true, not_true_eq_false, not_false_eq_true, iscT K, takeNumber_ev O (d + 4) K e50 hl hpl, e1, Option.elim_none, z01]
  | some x =>
    obtain ⟨x1, x2, x3⟩ := nm_num e1 (by decide)
    have K1 := hp_at K x.2 t (-1)
    have E1 := hp_50 (l := l) e50 x.2 t (-1)
    have H1 := CA_hp (l := l) H ha x.2 t (-1)
    have rp := readPane_ev O (d + 3) K1 E1 hl x2 H1 R ha
    simp only [Option.elim_some, sbd_r]
    cases e2 : pnS B l W x.2 with
    | inl f =>
      rw [e2] at rp
      obtain ⟨q, rp⟩ := rp
      refine LR_num K H ha (q := q) ?_
      simp only [e_21_0, e_21_1, e_21_2, e_21_5, e_21_8, e_21_9, e_21_10, e_21_11, e_21_14, e_21_15, e_21_16, e_21_17, e_21_18, e_21_21, e_21_22, e_21_23, e_21_24, e_21_27, e_21_28, e_21_29, e_21_30, e_21_31, e_21_33, e_21_36, e_21_38, e_21_40, e_21_41, e_21_44, e_21_45, e_21_46, e_21_47, e_21_49, e_21_52, e_21_55, e_21_56, e_21_59, e_21_60, e_21_61, e_21_62, e_21_64, e_21_67, e_21_69, e_21_71, e_21_72, e_21_75, e_21_76, e_21_77, e_21_78, e_21_79, e_21_82, e_21_83, e_21_85, e_21_86, e_21_89, e_21_91, e_21_92, e_21_93, e_21_94, e_21_97, e_21_99, e_21_100, e_21_101, e_21_102, e_21_103, e_21_104, e_21_107, e_21_109, e_21_110, e_21_111, e_21_113, e_21_114, e_21_115, e_21_118, e_21_120, e_21_121, e_21_122, e_21_124, e_21_125, e_21_126, e_21_129, e_21_131, e_21_132, e_21_133, e_21_134, e_21_136, e_21_139, e_21_142, e_21_143, e_21_146, e_21_147, e_21_148, e_21_149, e_21_150, e_21_153, e_21_154, e_21_155, e_21_158, e_21_159, Option.bind_some, Option.bind_none, m_kt, m_kn, Option.toList_some, Option.toList_none, List.nil_append, List.cons_append, List.append_nil, ltn, ite_not, ↓reduceIte, true_or, or_true, nP1, oI_s, oI_n, bI_f, bI_t, i1_0, i0_0, Bool.false_eq_true, not_true_eq_false, not_false_eq_true, iscT K, takeNumber_ev O (d + 4) K e50 hl hpl, e1, Option.elim_some, x1, rp, hp_hp, z01]
    | inr c =>
      rw [e2] at rp
      have rp : ev O (d + 5) 22 0 [.ref 49, .ref a, mJ, mJ] [] (hp h l x.2 t (-1)) = some (.inl (some (.int (nI c.1))), hp (hp h l x.2 t (-1)) l c.2 t (-1)) := rp
      obtain ⟨c2, c3, c4⟩ := pnS_ok R e2
      have hN := pN_le R
      have n1 := nm1 (n := c.1) (by omega)
      have K2 := hp_at K c.2 t (-1)
      have E2 := hp_50 (l := l) e50 c.2 t (-1)
      simp only [sbd_r]
      cases e3 : num B l c.2 0 23 with
      | none =>
        refine LR_num K H ha (q := sb B l c.2) ?_
        simp only [e_21_0, e_21_1, e_21_2, e_21_5, e_21_8, e_21_9, e_21_10, e_21_11, e_21_14, e_21_15, e_21_16, e_21_17, e_21_18, e_21_21, e_21_22, e_21_23, e_21_24, e_21_27, e_21_28, e_21_29, e_21_30, e_21_31, e_21_33, e_21_36, e_21_38, e_21_40, e_21_41, e_21_44, e_21_45, e_21_46, e_21_47, e_21_49, e_21_52, e_21_55, e_21_56, e_21_59, e_21_60, e_21_61, e_21_62, e_21_64, e_21_67, e_21_69, e_21_71, e_21_72, e_21_75, e_21_76, e_21_77, e_21_78, e_21_79, e_21_82, e_21_83, e_21_85, e_21_86, e_21_89, e_21_91, e_21_92, e_21_93, e_21_94, e_21_97, e_21_99, e_21_100, e_21_101, e_21_102, e_21_103, e_21_104, e_21_107, e_21_109, e_21_110, e_21_111, e_21_113, e_21_114, e_21_115, e_21_118, e_21_120, e_21_121, e_21_122, e_21_124, e_21_125, e_21_126, e_21_129, e_21_131, e_21_132, e_21_133, e_21_134, e_21_136, e_21_139, e_21_142, e_21_143, e_21_146, e_21_147, e_21_148, e_21_149, e_21_150, e_21_153, e_21_154, e_21_155, e_21_158, e_21_159, Option.bind_some, Option.bind_none, m_kt, m_kn, Option.toList_some, Option.toList_none, List.nil_append, List.cons_append, List.append_nil, ltn, ite_not, ↓reduceIte, true_or, or_true, nP1, oI_s, oI_n, bI_f, bI_t, i1_0, i0_0, Bool.false_eq_true, not_true_eq_false, not_false_eq_true, iscT K, takeNumber_ev O (d + 4) K e50 hl hpl, e1, Option.elim_some, x1, rp, hp_hp, n1, iscT K2, takeNumber_ev O (d + 4) K2 E2 hl c3, e3, Option.elim_none, z01]
      | some f =>
        obtain ⟨f1, f2, f3⟩ := nm_num e3 (by decide)
        have K3 := hp_at K f.2 t (-1)
        have E3 := hp_50 (l := l) e50 f.2 t (-1)
        have s3 := sb_le (B := B) f2
        simp only [Option.elim_some, sbd_r]
        cases z : wd B l (sb B l f.2) w_to
        · have K4 := hp_at K (sb B l f.2) t (-1)
          have E4 := hp_50 (l := l) e50 (sb B l f.2) t (-1)
          simp only [Bool.false_eq_true, ↓reduceIte]
          refine LR_num K H ha (q := sb B l f.2) ?_
          simp only [e_21_0, e_21_1, e_21_2, e_21_5, e_21_8, e_21_9, e_21_10, e_21_11, e_21_14, e_21_15, e_21_16, e_21_17, e_21_18, e_21_21, e_21_22, e_21_23, e_21_24, e_21_27, e_21_28, e_21_29, e_21_30, e_21_31, e_21_33, e_21_36, e_21_38, e_21_40, e_21_41, e_21_44, e_21_45, e_21_46, e_21_47, e_21_49, e_21_52, e_21_55, e_21_56, e_21_59, e_21_60, e_21_61, e_21_62, e_21_64, e_21_67, e_21_69, e_21_71, e_21_72, e_21_75, e_21_76, e_21_77, e_21_78, e_21_79, e_21_82, e_21_83, e_21_85, e_21_86, e_21_89, e_21_91, e_21_92, e_21_93, e_21_94, e_21_97, e_21_99, e_21_100, e_21_101, e_21_102, e_21_103, e_21_104, e_21_107, e_21_109, e_21_110, e_21_111, e_21_113, e_21_114, e_21_115, e_21_118, e_21_120, e_21_121, e_21_122, e_21_124, e_21_125, e_21_126, e_21_129, e_21_131, e_21_132, e_21_133, e_21_134, e_21_136, e_21_139, e_21_142, e_21_143, e_21_146, e_21_147, e_21_148, e_21_149, e_21_150, e_21_153, e_21_154, e_21_155, e_21_158, e_21_159, Option.bind_some, Option.bind_none, m_kt, m_kn, Option.toList_some, Option.toList_none, List.nil_append, List.cons_append, List.append_nil, ltn, ite_not, ↓reduceIte, true_or, or_true, nP1, oI_s, oI_n, bI_f, bI_t, i1_0, i0_0, Bool.false_eq_true, not_true_eq_false, not_false_eq_true, iscT K, takeNumber_ev O (d + 4) K e50 hl hpl, e1, Option.elim_some, x1, rp, hp_hp, n1, iscT K2, takeNumber_ev O (d + 4) K2 E2 hl c3, e3, f1, iscT K3, takeWord_ev O d K3 E3 hl f2 Xto l_to, z, iscT K4, refuseNext_ev O (d + 4) K4 E4 hl s3, sb_sb, z01]
        · have w2 := (wd_le l_to z).2
          have w2 : sb B l f.2 + 2 ≤ l := w2
          have K4 := hp_at K (sb B l f.2 + 2) (nI (sb B l f.2)) (-1)
          have E4 := hp_50 (l := l) e50 (sb B l f.2 + 2) (nI (sb B l f.2)) (-1)
          have ln : w_to.length = 2 := rfl
          simp only [↓reduceIte]
          cases e4 : num B l (sb B l f.2 + 2) 0 23 with
          | none =>
            refine LR_mono (hp_out (l := l) (sb B l f.2 + 2) (nI (sb B l f.2)) (-1)) (LR_num K4 (CA_hp H ha _ _ _) ha (q := sb B l (sb B l f.2 + 2)) ?_)
            simp only [e_21_0, e_21_1, e_21_2, e_21_5, e_21_8, e_21_9, e_21_10, e_21_11, e_21_14, e_21_15, e_21_16, e_21_17, e_21_18, e_21_21, e_21_22, e_21_23, e_21_24, e_21_27, e_21_28, e_21_29, e_21_30, e_21_31, e_21_33, e_21_36, e_21_38, e_21_40, e_21_41, e_21_44, e_21_45, e_21_46, e_21_47, e_21_49, e_21_52, e_21_55, e_21_56, e_21_59, e_21_60, e_21_61, e_21_62, e_21_64, e_21_67, e_21_69, e_21_71, e_21_72, e_21_75, e_21_76, e_21_77, e_21_78, e_21_79, e_21_82, e_21_83, e_21_85, e_21_86, e_21_89, e_21_91, e_21_92, e_21_93, e_21_94, e_21_97, e_21_99, e_21_100, e_21_101, e_21_102, e_21_103, e_21_104, e_21_107, e_21_109, e_21_110, e_21_111, e_21_113, e_21_114, e_21_115, e_21_118, e_21_120, e_21_121, e_21_122, e_21_124, e_21_125, e_21_126, e_21_129, e_21_131, e_21_132, e_21_133, e_21_134, e_21_136, e_21_139, e_21_142, e_21_143, e_21_146, e_21_147, e_21_148, e_21_149, e_21_150, e_21_153, e_21_154, e_21_155, e_21_158, e_21_159, Option.bind_some, Option.bind_none, m_kt, m_kn, Option.toList_some, Option.toList_none, List.nil_append, List.cons_append, List.append_nil, ltn, ite_not, ↓reduceIte, true_or, or_true, nP1, oI_s, oI_n, bI_f, bI_t, i1_0, i0_0, Bool.false_eq_true, not_true_eq_false, not_false_eq_true, iscT K, takeNumber_ev O (d + 4) K e50 hl hpl, e1, Option.elim_some, x1, rp, hp_hp, n1, iscT K2, takeNumber_ev O (d + 4) K2 E2 hl c3, e3, f1, iscT K3, takeWord_ev O d K3 E3 hl f2 Xto l_to, z, ln, iscT K4, takeNumber_ev O (d + 4) K4 E4 hl w2, e4, Option.elim_none, z01]
          | some u =>
            obtain ⟨u1, u2, u3⟩ := nm_num e4 (by decide)
            have K5 := hp_at K u.2 (nI (sb B l f.2)) (-1)
            have E5 := hp_50 (l := l) e50 u.2 (nI (sb B l f.2)) (-1)
            have H5 := CA_hp (l := l) H ha u.2 (nI (sb B l f.2)) (-1)
            obtain ⟨h', t', r1, r2, r3, r4⟩ := cart_fin O d Xfe K5 E5 hl u2 H5 R ha hk x.1 (nI c.1) f.1 u.1 rfl
            refine ⟨h', t', ?_, r2, r3, (hp_out _ _ _).tr1 r4⟩
            simp only [e_21_0, e_21_1, e_21_2, e_21_5, e_21_8, e_21_9, e_21_10, e_21_11, e_21_14, e_21_15, e_21_16, e_21_17, e_21_18, e_21_21, e_21_22, e_21_23, e_21_24, e_21_27, e_21_28, e_21_29, e_21_30, e_21_31, e_21_33, e_21_36, e_21_38, e_21_40, e_21_41, e_21_44, e_21_45, e_21_46, e_21_47, e_21_49, e_21_52, e_21_55, e_21_56, e_21_59, e_21_60, e_21_61, e_21_62, e_21_64, e_21_67, e_21_69, e_21_71, e_21_72, e_21_75, e_21_76, e_21_78, e_21_79, e_21_82, e_21_83, e_21_85, e_21_86, e_21_89, e_21_91, e_21_92, e_21_93, e_21_94, e_21_97, e_21_99, e_21_100, e_21_101, e_21_102, e_21_103, e_21_104, e_21_107, e_21_109, e_21_110, e_21_111, e_21_113, e_21_114, e_21_115, e_21_118, e_21_120, e_21_121, e_21_122, e_21_124, e_21_125, e_21_126, e_21_129, e_21_131, e_21_132, e_21_133, e_21_134, e_21_136, e_21_139, e_21_142, e_21_143, e_21_146, e_21_147, e_21_148, e_21_149, e_21_150, e_21_153, e_21_154, e_21_155, e_21_158, e_21_159, Option.bind_some, Option.bind_none, m_kt, m_kn, Option.toList_some, Option.toList_none, List.nil_append, List.cons_append, List.append_nil, ltn, ite_not, ↓reduceIte, true_or, or_true, nP1, oI_s, oI_n, bI_f, bI_t, i1_0, i0_0, Bool.false_eq_true, not_true_eq_false, not_false_eq_true, iscT K, takeNumber_ev O (d + 4) K e50 hl hpl, e1, Option.elim_some, x1, rp, hp_hp, n1, iscT K2, takeNumber_ev O (d + 4) K2 E2 hl c3, e3, f1, iscT K3, takeWord_ev O d K3 E3 hl f2 Xto l_to, z, ln, iscT K4, takeNumber_ev O (d + 4) K4 E4 hl w2, e4, u1, r1]
end CityR
