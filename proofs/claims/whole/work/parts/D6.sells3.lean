/-! The reference's sale -/
section Sells3
variable {h : mH} {m : Nat → Int32} {W : WD}
theorem or_if {c : Bool} {s b : Int32} : s ||| (if c = true then b else 0) = if c = true then s ||| b else s := by
  cases c
  · exact or_0 s
  · rfl
theorem sells7 (O : mO) (d : Nat) (H : MS h m W) (R : rng W) (T : TW W) (hr : Int32) {v : mH} (a : sx h m 0 v) : ∃ v', sx h m (bs (pN W) (fun p => sv W p hr)) v' ∧ v'.1[74]? = v.1[74]? ∧ ev O (d + 7) 220 7 [.ref 66, .int hr, .int 0, mJ, mJ, mJ, mJ, mJ, mJ] [] v = ev O (d + 7) 220 7 [.ref 66, .int hr, .int (nI (pN W)), mJ, mJ, mJ, mJ, mJ, mJ] [] v' := by
  have hN := pN_le R
  have e := lp_runJ (ν := mH) (F := fun p (_ : Int32) v => ev O (d + 7) 220 7 [.ref 66, .int hr, .int (nI p), mJ, mJ, mJ, mJ, mJ, mJ] [] v) (f := fun p x => x ||| (if sv W p hr = true then shl1 p else 0)) (n := pN W) (fun p x w => sx h m x w ∧ w.1[74]? = v.1[74]?) (fun p x w hp J => by
    obtain ⟨a, g⟩ := J
    have Hv := a.ms H
    have c1 : ¬ nI (pN W) ≤ nI p := nI_ge hp (by omega)
    obtain ⟨z, es⟩ := isSeen_ev O d Hv R a.1 T (show p < 30 by omega) hr
    have a1 := a.sc (sc_hVl z)
    obtain ⟨a2, ep⟩ := a1.put (x ||| (if sv W p hr = true then shl1 p else 0))
    refine ⟨_, ⟨a2, ((hne (by decide)).trans (hne (by decide))).trans g⟩, ?_⟩
    rw [e_220_7]
    cases q : sv W p hr <;> rw [q] at es ep <;> simp only [e_220_0, e_220_1, e_220_2, e_220_5, e_220_6, e_220_8, e_220_9, e_220_12, e_220_15, e_220_16, e_220_17, e_220_20, e_220_21, e_220_22, e_220_23, e_220_26, e_220_29, e_220_30, e_220_31, e_220_32, e_220_35, e_220_36, e_220_37, e_220_40, e_220_43, e_220_46, e_220_47, e_220_48, e_220_51, e_220_52, e_220_53, e_220_54, e_220_55, e_220_56, e_220_57, e_220_58, e_220_59, e_220_62, e_220_63, e_220_64, e_220_66, e_220_67, e_220_71, e_220_72, e_220_75, e_220_76, e_220_77, e_220_80, e_220_81, e_220_82, e_220_84, e_220_85, e_220_86, e_220_87, e_220_88, e_220_89, e_220_90, e_220_93, e_220_95, e_220_96, e_220_97, e_220_98, e_220_101, e_220_103, e_220_104, e_220_105, e_220_108, e_220_110, e_220_113, e_220_114, e_220_117, e_220_118, e_220_120, e_220_121, e_220_125, e_220_126, e_220_129, e_220_132, e_220_134, e_220_137, e_220_139, e_220_141, e_220_144, e_220_147, e_220_150, e_220_151, e_220_153, e_220_154, e_220_156, e_220_157, e_220_158, e_220_159, e_220_160, e_220_163, e_220_164, e_220_165, e_220_168, e_220_169, e_220_172, e_220_175, e_220_177, e_220_179, e_220_180, e_220_181, e_220_183, e_220_184, e_220_185, e_220_186, e_220_188, e_220_191, e_220_192, e_220_195, e_220_196, e_220_198, e_220_200, e_220_203, e_220_204, e_220_207, e_220_209, e_220_211, e_220_212, e_220_215, e_220_219, e_220_222, e_220_224, e_220_225, e_220_228, e_220_229, e_220_231, e_220_234, e_220_237, e_220_239, e_220_240, e_220_243, e_220_246, e_220_248, e_220_250, e_220_251, e_220_252, e_220_253, e_220_256, e_220_258, e_220_259, e_220_260, e_220_261, e_220_262, e_220_264, e_220_267, e_220_270, e_220_271, Option.bind_some, Option.bind_none, m_kt, m_kn, Option.toList_some, Option.toList_none, List.nil_append, List.cons_append, List.append_nil, ltn, ite_not, ↓reduceIte, true_or, or_true, nP1, oI_s, oI_n, bI_f, bI_t, i1_0, i0_0, Bool.false_eq_true, not_true_eq_false, not_false_eq_true, Hv.isc, panes_ev O (d + 6) Hv.w R, c1, a.g19, es, shl_nI] <;> simp only [Option.bind_some, Option.bind_none, m_kt, m_kn, Option.toList_some, Option.toList_none, List.nil_append, List.cons_append, List.append_nil, ltn, ite_not, ↓reduceIte, true_or, or_true, nP1, oI_s, oI_n, bI_f, bI_t, i1_0, i0_0, Bool.false_eq_true, not_true_eq_false, not_false_eq_true] at ep <;> simp only [ep, Option.bind_some, Option.bind_none, m_kt, m_kn, Option.toList_some, Option.toList_none, List.nil_append, List.cons_append, List.append_nil, ltn, ite_not, ↓reduceIte, true_or, or_true, nP1, oI_s, oI_n, bI_f, bI_t, i1_0, i0_0, Bool.false_eq_true, not_true_eq_false, not_false_eq_true]) 0 v ⟨a, rfl⟩
  obtain ⟨v', ⟨a', g'⟩, e⟩ := e
  rw [bs_m] at a'
  exact ⟨v', a', g', e⟩
theorem sells_ev (O : mO) (d : Nat) (H : MS h m W) (R : rng W) (S : SH h) (T : TW W) (hr : Int32) : ∃ u x v f, opt (sN W) (pN W) (oW W) (fun p => sv W p hr) 0 u ∧ ev O (d + 7) 220 0 [.ref 66, .int hr, mJ, mJ, mJ, mJ, mJ, mJ, mJ] [] h = some (.inl (some (.int (nI (payM (oW W) u)))), v) ∧ sx h m x v ∧ v.1[74]? = some (aI 6 f) ∧ ∀ s, s < sN W → f s = nI (u s) - 1 := by
  have hN := pN_le R
  have h6 : sN W ≤ 6 := R.1.2.2.2.1.2
  have p6 : 2 ^ sN W ≤ 64 := by rw [show 64 = 2 ^ 6 from rfl]; exact Nat.pow_le_pow_right (by omega) h6
  have p1 : 1 ≤ 2 ^ sN W := Nat.one_le_two_pow
  obtain ⟨u, hu, -, pb, -⟩ := bw_way (c := fun p => sv W p hr) R hN 0
  obtain ⟨f0, e74⟩ := S.at (b := 74) (n := 6) (by decide)
  obtain ⟨a0, ep⟩ := (sx_0 H S).put 0
  obtain ⟨v1, a1, g1, e1⟩ := sells7 O d H R T hr a0
  have g1 : v1.1[74]? = some (aI 6 f0) := g1.trans ((hne (by decide)).trans e74)
  have H1 := a1.ms H
  have hb : ∀ p, p < pN W → bt (bs (pN W) (fun p => sv W p hr)) p = sv W p hr := fun p hp => by
    rw [bt_bs (by omega) _ (by omega), decide_eq_true hp, Bool.true_and]
  obtain ⟨w, em, a2⟩ := most_sx O (d + 5) H R a1 (show 2 ^ sN W - 1 < 64 by omega) hb
  have tb : ∀ t, (2 ^ sN W - 1).testBit t = decide (t < sN W) := fun t => Nat.testBit_two_pow_sub_one _ _
  rw [opt_pay h6 hN hu (fun s => by rw [tb, Nat.zero_testBit]; simp)] at em
  have g2 : (hPd v1 w).1[74]? = some (aI 6 f0) := (hne (by decide)).trans g1
  have e5 : m_ai v1 67 5 = some (nI (sN W)) := by rw [H1.w.w5, rW5 R]
  have pt : payM (oW W) u = tlP (oW W) u 0 := by
    have := pay_split (oW W) u 0
    have z : prP (oW W) u 0 = 0 := rfl
    omega
  have e := lp_runJ (ν := mH × Value × Value × Value) (F := fun s (L : Nat) v => ev O (d + 7) 220 69 [.ref 66, .int hr, .int (nI L), .int (nI (payM (oW W) u)), .int (nI (tlP (oW W) u s)), .int (nI s), v.2.1, v.2.2.1, v.2.2.2] [] v.1) (f := fun s L => wo L s) (n := sN W) (fun s L v => L < 64 ∧ (∀ t, L.testBit t = decide (s ≤ t ∧ t < sN W)) ∧ ∃ x f, sx h m x v.1 ∧ (∀ p, p < pN W → bt x p = cR (fun p => sv W p hr) u s p) ∧ v.1.1[74]? = some (aI 6 f) ∧ ∀ t, t < s → f t = nI (u t) - 1) (fun s L v hs J => by
    obtain ⟨v, v6, v7, v8⟩ := v
    obtain ⟨J1, J2, x, f, J3, J4, J5, J6⟩ := J
    obtain ⟨x', v', f', w6, w7, w8, q1, q2, q3, q4, q5, e⟩ := sells69 O (d + 5) H R (hr := hr) (all := nI (payM (oW W) u)) hs J1 hu J2 J3 J4 J5 v6 v7 v8
    have Ls : L.testBit s = true := by rw [J2]; simp [hs]
    have wl := (st_wo L J1 s (by omega) Ls).2
    refine ⟨(v', w6, w7, w8), ⟨by omega, fun t => ?_, x', f', q1, q2, q3, fun t ht => ?_⟩, e⟩
    · rw [wo_bt, J2, Bool.eq_iff_iff]
      simp only [Bool.and_eq_true, decide_eq_true_eq, Bool.not_eq_true', decide_eq_false_iff_not]
      omega
    · by_cases z : t = s
      · subst z; exact q4
      · rw [q5 t z]; exact J6 t (by omega)) (2 ^ sN W - 1) (hPd v1 w, mJ, mJ, mJ) ⟨by omega, fun t => by rw [tb]; simp, _, f0, a2, fun p hp => hb p hp, g2, fun t ht => absurd ht (by omega)⟩
  obtain ⟨⟨v, v6, v7, v8⟩, ⟨-, -, x, f, J3, -, J5, J6⟩, e⟩ := e
  refine ⟨u, x, v, f, hu, ?_, J3, J5, J6⟩
  simp only [nI_0] at e
  rw [← pt] at e
  have H3 := J3.ms H
  have e5' : m_ai v 67 5 = some (nI (sN W)) := by rw [H3.w.w5, rW5 R]
  simp only [e_220_0, e_220_1, e_220_2, e_220_5, e_220_6, e_220_8, e_220_9, e_220_12, e_220_15, e_220_16, e_220_17, e_220_20, e_220_21, e_220_22, e_220_23, e_220_26, e_220_29, e_220_30, e_220_31, e_220_32, e_220_35, e_220_36, e_220_37, e_220_40, e_220_43, e_220_46, e_220_47, e_220_48, e_220_51, e_220_52, e_220_53, e_220_54, e_220_55, e_220_56, e_220_57, e_220_58, e_220_59, e_220_62, e_220_63, e_220_64, e_220_66, e_220_67, e_220_71, e_220_72, e_220_75, e_220_76, e_220_77, e_220_80, e_220_81, e_220_82, e_220_84, e_220_85, e_220_86, e_220_87, e_220_88, e_220_89, e_220_90, e_220_93, e_220_95, e_220_96, e_220_97, e_220_98, e_220_101, e_220_103, e_220_104, e_220_105, e_220_108, e_220_110, e_220_113, e_220_114, e_220_117, e_220_118, e_220_120, e_220_121, e_220_125, e_220_126, e_220_129, e_220_132, e_220_134, e_220_137, e_220_139, e_220_141, e_220_144, e_220_147, e_220_150, e_220_151, e_220_153, e_220_154, e_220_156, e_220_157, e_220_158, e_220_159, e_220_160, e_220_163, e_220_164, e_220_165, e_220_168, e_220_169, e_220_172, e_220_175, e_220_177, e_220_179, e_220_180, e_220_181, e_220_183, e_220_184, e_220_185, e_220_186, e_220_188, e_220_191, e_220_192, e_220_195, e_220_196, e_220_198, e_220_200, e_220_203, e_220_204, e_220_207, e_220_209, e_220_211, e_220_212, e_220_215, e_220_219, e_220_222, e_220_224, e_220_225, e_220_228, e_220_229, e_220_231, e_220_234, e_220_237, e_220_239, e_220_240, e_220_243, e_220_246, e_220_248, e_220_250, e_220_251, e_220_252, e_220_253, e_220_256, e_220_258, e_220_259, e_220_260, e_220_261, e_220_262, e_220_264, e_220_267, e_220_270, e_220_271, Option.bind_some, Option.bind_none, m_kt, m_kn, Option.toList_some, Option.toList_none, List.nil_append, List.cons_append, List.append_nil, ltn, ite_not, ↓reduceIte, true_or, or_true, nP1, oI_s, oI_n, bI_f, bI_t, i1_0, i0_0, Bool.false_eq_true, not_true_eq_false, not_false_eq_true, ep]
  refine e1.trans ?_
  rw [e_220_7]
  simp only [e_220_0, e_220_1, e_220_2, e_220_5, e_220_6, e_220_8, e_220_9, e_220_12, e_220_15, e_220_16, e_220_17, e_220_20, e_220_21, e_220_22, e_220_23, e_220_26, e_220_29, e_220_30, e_220_31, e_220_32, e_220_35, e_220_36, e_220_37, e_220_40, e_220_43, e_220_46, e_220_47, e_220_48, e_220_51, e_220_52, e_220_53, e_220_54, e_220_55, e_220_56, e_220_57, e_220_58, e_220_59, e_220_62, e_220_63, e_220_64, e_220_66, e_220_67, e_220_71, e_220_72, e_220_75, e_220_76, e_220_77, e_220_80, e_220_81, e_220_82, e_220_84, e_220_85, e_220_86, e_220_87, e_220_88, e_220_89, e_220_90, e_220_93, e_220_95, e_220_96, e_220_97, e_220_98, e_220_101, e_220_103, e_220_104, e_220_105, e_220_108, e_220_110, e_220_113, e_220_114, e_220_117, e_220_118, e_220_120, e_220_121, e_220_125, e_220_126, e_220_129, e_220_132, e_220_134, e_220_137, e_220_139, e_220_141, e_220_144, e_220_147, e_220_150, e_220_151, e_220_153, e_220_154, e_220_156, e_220_157, e_220_158, e_220_159, e_220_160, e_220_163, e_220_164, e_220_165, e_220_168, e_220_169, e_220_172, e_220_175, e_220_177, e_220_179, e_220_180, e_220_181, e_220_183, e_220_184, e_220_185, e_220_186, e_220_188, e_220_191, e_220_192, e_220_195, e_220_196, e_220_198, e_220_200, e_220_203, e_220_204, e_220_207, e_220_209, e_220_211, e_220_212, e_220_215, e_220_219, e_220_222, e_220_224, e_220_225, e_220_228, e_220_229, e_220_231, e_220_234, e_220_237, e_220_239, e_220_240, e_220_243, e_220_246, e_220_248, e_220_250, e_220_251, e_220_252, e_220_253, e_220_256, e_220_258, e_220_259, e_220_260, e_220_261, e_220_262, e_220_264, e_220_267, e_220_270, e_220_271, Option.bind_some, Option.bind_none, m_kt, m_kn, Option.toList_some, Option.toList_none, List.nil_append, List.cons_append, List.append_nil, ltn, ite_not, ↓reduceIte, true_or, or_true, nP1, oI_s, oI_n, bI_f, bI_t, i1_0, i0_0, Bool.false_eq_true, not_true_eq_false, not_false_eq_true, H1.isc, panes_ev O (d + 6) H1.w R, Int32.le_refl, gM1 H1.1, e5, shl_nI, (st_n _ h6).1, em]
  refine e.trans ?_
  rw [e_220_69]
  simp only [e_220_0, e_220_1, e_220_2, e_220_5, e_220_6, e_220_8, e_220_9, e_220_12, e_220_15, e_220_16, e_220_17, e_220_20, e_220_21, e_220_22, e_220_23, e_220_26, e_220_29, e_220_30, e_220_31, e_220_32, e_220_35, e_220_36, e_220_37, e_220_40, e_220_43, e_220_46, e_220_47, e_220_48, e_220_51, e_220_52, e_220_53, e_220_54, e_220_55, e_220_56, e_220_57, e_220_58, e_220_59, e_220_62, e_220_63, e_220_64, e_220_66, e_220_67, e_220_71, e_220_72, e_220_75, e_220_76, e_220_77, e_220_80, e_220_81, e_220_82, e_220_84, e_220_85, e_220_86, e_220_87, e_220_88, e_220_89, e_220_90, e_220_93, e_220_95, e_220_96, e_220_97, e_220_98, e_220_101, e_220_103, e_220_104, e_220_105, e_220_108, e_220_110, e_220_113, e_220_114, e_220_117, e_220_118, e_220_120, e_220_121, e_220_125, e_220_126, e_220_129, e_220_132, e_220_134, e_220_137, e_220_139, e_220_141, e_220_144, e_220_147, e_220_150, e_220_151, e_220_153, e_220_154, e_220_156, e_220_157, e_220_158, e_220_159, e_220_160, e_220_163, e_220_164, e_220_165, e_220_168, e_220_169, e_220_172, e_220_175, e_220_177, e_220_179, e_220_180, e_220_181, e_220_183, e_220_184, e_220_185, e_220_186, e_220_188, e_220_191, e_220_192, e_220_195, e_220_196, e_220_198, e_220_200, e_220_203, e_220_204, e_220_207, e_220_209, e_220_211, e_220_212, e_220_215, e_220_219, e_220_222, e_220_224, e_220_225, e_220_228, e_220_229, e_220_231, e_220_234, e_220_237, e_220_239, e_220_240, e_220_243, e_220_246, e_220_248, e_220_250, e_220_251, e_220_252, e_220_253, e_220_256, e_220_258, e_220_259, e_220_260, e_220_261, e_220_262, e_220_264, e_220_267, e_220_270, e_220_271, Option.bind_some, Option.bind_none, m_kt, m_kn, Option.toList_some, Option.toList_none, List.nil_append, List.cons_append, List.append_nil, ltn, ite_not, ↓reduceIte, true_or, or_true, nP1, oI_s, oI_n, bI_f, bI_t, i1_0, i0_0, Bool.false_eq_true, not_true_eq_false, not_false_eq_true, gM1 H3.1, e5', Int32.le_refl]
end Sells3
