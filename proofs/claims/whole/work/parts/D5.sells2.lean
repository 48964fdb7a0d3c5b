/-! The reference's market: all seers -/
section Sells2
variable {h : mH} {m : Nat → Int32} {W : WD}
theorem cR_step {c : Nat → Bool} {u : Nat → Nat} {s p : Nat} : cR c u (s + 1) p = (cR c u s p && !decide (u s = p + 1)) := by
  rw [Bool.eq_iff_iff, cR_iff, Bool.and_eq_true, cR_iff]
  simp only [Bool.not_eq_true', decide_eq_false_iff_not]
  constructor
  · rintro ⟨a, b⟩
    exact ⟨⟨a, fun t ht => b t (by omega)⟩, b s (by omega)⟩
  · rintro ⟨⟨a, b⟩, e⟩
    refine ⟨a, fun t ht => ?_⟩
    by_cases z : t = s
    · subst z; exact e
    · exact b t (by omega)
theorem sells69 (O : mO) (d : Nat) (H : MS h m W) (R : rng W) {hr all : Int32} {s L : Nat} (hs : s < sN W) (hL : L < 64) {c : Nat → Bool} {u : Nat → Nat} (ho : opt (sN W) (pN W) (oW W) c 0 u) (Lb : ∀ t, L.testBit t = decide (s ≤ t ∧ t < sN W)) {x : Int32} {v : mH} {f : Nat → Int32} (a : sx h m x v) (hx : ∀ p, p < pN W → bt x p = cR c u s p) (g : v.1[74]? = some (aI 6 f)) (v6 v7 v8 : Value) : ∃ x' v' f' w6 w7 w8, sx h m x' v' ∧ (∀ p, p < pN W → bt x' p = cR c u (s + 1) p) ∧ v'.1[74]? = some (aI 6 f') ∧ f' s = nI (u s) - 1 ∧ (∀ t, t ≠ s → f' t = f t) ∧ ev O (d + 2) 220 69 [.ref 66, .int hr, .int (nI L), .int all, .int (nI (tlP (oW W) u s)), .int (nI s), v6, v7, v8] [] v = ev O (d + 2) 220 69 [.ref 66, .int hr, .int (nI (wo L s)), .int all, .int (nI (tlP (oW W) u (s + 1))), .int (nI (s + 1)), w6, w7, w8] [] v' := by
  have hN := pN_le R
  have h6 : sN W ≤ 6 := R.1.2.2.2.1.2
  have hs6 : s < 6 := by omega
  have pb := pay_b R h6 hN ho.1
  have ps := pay_split (oW W) u s
  have ts := tl_s (oW W) u hs6
  have Ls : L.testBit s = true := by rw [Lb]; simp [hs]
  obtain ⟨w1, w2⟩ := st_wo L hL s hs6 Ls
  have Lb' : ∀ t, (wo L s).testBit t = decide (s < t ∧ t < sN W) := fun t => by
    rw [wo_bt, Lb, Bool.eq_iff_iff]
    simp only [Bool.and_eq_true, decide_eq_true_eq, Bool.not_eq_true', decide_eq_false_iff_not]
    omega
  have c1 : ¬ nI (sN W) ≤ nI s := nI_ge hs (by omega)
  have Hv := a.ms H
  have e5 : m_ai v 67 5 = some (nI (sN W)) := by rw [Hv.w.w5, rW5 R]
  have w74 : m_si v 74 (nI s) (-1) = some (v.1.set 74 (aI 6 (upd f s (-1))), v.2) := si_n g hs6 (by decide) _
  have a1 : sx h m x (v.1.set 74 (aI 6 (upd f s (-1))), v.2) := a.sc (sc_set (b := 74) (n := 6) (by decide) _)
  have g1 : ((v.1.set 74 (aI 6 (upd f s (-1))), v.2) : mH).1[74]? = some (aI 6 (upd f s (-1))) := hget g
  obtain ⟨w, em, a2⟩ := most_sx O d H R a1 (show wo L s < 64 by omega) hx
  have g2 : (hPd (v.1.set 74 (aI 6 (upd f s (-1))), v.2) w).1[74]? = some (aI 6 (upd f s (-1))) := (hne (by decide)).trans g1
  have mb := pdA_b R (cR c u s) (pN W) hN (wo L s) (by omega)
  have eq := nEq (a := pdA (oW W) (cR c u s) (pN W) (wo L s)) (b := tlP (oW W) u s) (by omega) (by omega)
  have gn := gr_none h6 hN ho hs Lb'
  generalize h2e : hPd (v.1.set 74 (aI 6 (upd f s (-1))), v.2) w = h2 at *
  have H2 := a2.ms H
  by_cases z : u s = 0
  · have z' : (nI (pdA (oW W) (cR c u s) (pN W) (wo L s)) = nI (tlP (oW W) u s)) = True := by rw [eq]; exact eq_true (gn.mpr z)
    obtain ⟨a3, ep⟩ := a2.put x
    have gs : m_ai h2 74 (nI s) = some (-1) := by rw [ai_n g2 hs6 (by decide), pk_us]
    refine ⟨x, _, upd f s (-1), .int x, .int 1, .int 0, a3, fun p hp => ?_, (hne (by decide)).trans g2, ?_, fun t ht => pk_un (by omega), ?_⟩
    · rw [hx p hp, cR_step, z]; simp
    · rw [z]; exact pk_us
    · have tt : tlP (oW W) u (s + 1) = tlP (oW W) u s := by rw [ts, z]; simp [pv]
      rw [tt]
      rw [e_220_69]
      simp only [e_220_0, e_220_1, e_220_2, e_220_5, e_220_6, e_220_8, e_220_9, e_220_12, e_220_15, e_220_16, e_220_17, e_220_20, e_220_21, e_220_22, e_220_23, e_220_26, e_220_29, e_220_30, e_220_31, e_220_32, e_220_35, e_220_36, e_220_37, e_220_40, e_220_43, e_220_46, e_220_47, e_220_48, e_220_51, e_220_52, e_220_53, e_220_54, e_220_55, e_220_56, e_220_57, e_220_58, e_220_59, e_220_62, e_220_63, e_220_64, e_220_66, e_220_67, e_220_71, e_220_72, e_220_75, e_220_76, e_220_77, e_220_80, e_220_81, e_220_82, e_220_84, e_220_85, e_220_86, e_220_87, e_220_88, e_220_89, e_220_90, e_220_93, e_220_95, e_220_96, e_220_97, e_220_98, e_220_101, e_220_103, e_220_104, e_220_105, e_220_108, e_220_110, e_220_113, e_220_114, e_220_117, e_220_118, e_220_120, e_220_121, e_220_125, e_220_126, e_220_129, e_220_132, e_220_134, e_220_137, e_220_139, e_220_141, e_220_144, e_220_147, e_220_150, e_220_151, e_220_153, e_220_154, e_220_156, e_220_157, e_220_158, e_220_159, e_220_160, e_220_163, e_220_164, e_220_165, e_220_168, e_220_169, e_220_172, e_220_175, e_220_177, e_220_179, e_220_180, e_220_181, e_220_183, e_220_184, e_220_185, e_220_186, e_220_188, e_220_191, e_220_192, e_220_195, e_220_196, e_220_198, e_220_200, e_220_203, e_220_204, e_220_207, e_220_209, e_220_211, e_220_212, e_220_215, e_220_219, e_220_222, e_220_224, e_220_225, e_220_228, e_220_229, e_220_231, e_220_234, e_220_237, e_220_239, e_220_240, e_220_243, e_220_246, e_220_248, e_220_250, e_220_251, e_220_252, e_220_253, e_220_256, e_220_258, e_220_259, e_220_260, e_220_261, e_220_262, e_220_264, e_220_267, e_220_270, e_220_271, Option.bind_some, Option.bind_none, m_kt, m_kn, Option.toList_some, Option.toList_none, List.nil_append, List.cons_append, List.append_nil, ltn, ite_not, ↓reduceIte, true_or, or_true, nP1, oI_s, oI_n, bI_f, bI_t, i1_0, i0_0, Bool.false_eq_true, not_true_eq_false, not_false_eq_true, gM1 Hv.1, e5, c1, shl_nI, w1, gM17 Hv.1, w74, a1.g19, (a1.ms H).isc, em, z']
      rw [e_220_123]
      by_cases y : nI (pN W) ≤ 0 <;> simp only [e_220_0, e_220_1, e_220_2, e_220_5, e_220_6, e_220_8, e_220_9, e_220_12, e_220_15, e_220_16, e_220_17, e_220_20, e_220_21, e_220_22, e_220_23, e_220_26, e_220_29, e_220_30, e_220_31, e_220_32, e_220_35, e_220_36, e_220_37, e_220_40, e_220_43, e_220_46, e_220_47, e_220_48, e_220_51, e_220_52, e_220_53, e_220_54, e_220_55, e_220_56, e_220_57, e_220_58, e_220_59, e_220_62, e_220_63, e_220_64, e_220_66, e_220_67, e_220_71, e_220_72, e_220_75, e_220_76, e_220_77, e_220_80, e_220_81, e_220_82, e_220_84, e_220_85, e_220_86, e_220_87, e_220_88, e_220_89, e_220_90, e_220_93, e_220_95, e_220_96, e_220_97, e_220_98, e_220_101, e_220_103, e_220_104, e_220_105, e_220_108, e_220_110, e_220_113, e_220_114, e_220_117, e_220_118, e_220_120, e_220_121, e_220_125, e_220_126, e_220_129, e_220_132, e_220_134, e_220_137, e_220_139, e_220_141, e_220_144, e_220_147, e_220_150, e_220_151, e_220_153, e_220_154, e_220_156, e_220_157, e_220_158, e_220_159, e_220_160, e_220_163, e_220_164, e_220_165, e_220_168, e_220_169, e_220_172, e_220_175, e_220_177, e_220_179, e_220_180, e_220_181, e_220_183, e_220_184, e_220_185, e_220_186, e_220_188, e_220_191, e_220_192, e_220_195, e_220_196, e_220_198, e_220_200, e_220_203, e_220_204, e_220_207, e_220_209, e_220_211, e_220_212, e_220_215, e_220_218, e_220_219, e_220_222, e_220_224, e_220_225, e_220_228, e_220_229, e_220_231, e_220_234, e_220_237, e_220_239, e_220_240, e_220_243, e_220_246, e_220_248, e_220_250, e_220_251, e_220_252, e_220_253, e_220_256, e_220_258, e_220_259, e_220_260, e_220_261, e_220_262, e_220_264, e_220_267, e_220_270, e_220_271, Option.bind_some, Option.bind_none, m_kt, m_kn, Option.toList_some, Option.toList_none, List.nil_append, List.cons_append, List.append_nil, ltn, ite_not, ↓reduceIte, true_or, or_true, nP1, oI_s, oI_n, bI_f, bI_t, i1_0, i0_0, Bool.false_eq_true, not_true_eq_false, not_false_eq_true, H2.isc, panes_ev O (d + 1) H2.w R, y, gM17 H2.1, gs, ep, (show (0 ≤ (-1 : Int32)) = False by decide)]
  · obtain ⟨p1, p2, p3, p4⟩ := gr_pane h6 hN ho hs Lb' z
    have z' : ¬ (nI (pdA (oW W) (cR c u s) (pN W) (wo L s)) = nI (tlP (oW W) u s)) := by rw [eq]; exact fun q => z (gn.mp q)
    obtain ⟨q, hq⟩ : ∃ q, u s = q + 1 := ⟨u s - 1, by omega⟩
    rw [hq, Nat.add_sub_cancel] at p2 p3 p4
    obtain ⟨v', a', g', e⟩ := sells123 O d H R (had := x) (hr := hr) (left := nI (wo L s)) (all := all) (due := nI (tlP (oW W) u s)) hs6 (show wo L s < 64 by omega) rfl hx rfl (by omega) p3 p2 p4 (fun p hp cp dp => by
      have := p1 p (by omega) cp dp
      omega) q 0 (by omega) x h2 _ a2 g2
    obtain ⟨o1, o2⟩ := of_e R hs6 (show q < 30 by omega)
    have H3 := a'.ms H
    have gs : m_ai v' 74 (nI s) = some (nI q) := by rw [ai_n g' hs6 (by decide), pk_us]
    have ga : m_ai v' 67 (nI (247 + 30 * s + q)) = some (nI (oW W s q)) := by rw [H3.w.w (by omega), Nat.add_assoc, o1]
    have q0 : (0 : Int32) ≤ nI q := nI_le (a := 0) (by omega) (by omega)
    refine ⟨_, v', _, .int x, .int 1, .int (nI (q + 1)), a', fun r hr' => ?_, g', ?_, fun t ht => (pk_un (by omega)).trans (pk_un (by omega)), ?_⟩
    · rw [b_and, bt_not _ (by omega), bt_shl1 (by omega) (by omega), hx r hr', cR_step, hq]
      congr 2
      rw [decide_eq_decide]
      omega
    · rw [hq, nI_pred]; exact pk_us
    · have tt : nI (tlP (oW W) u s) - nI (oW W s q) = nI (tlP (oW W) u (s + 1)) := by
        have pe : pv (oW W) s (u s) = oW W s q := by rw [hq]; rfl
        rw [pe] at ts
        rw [pk_sub (by omega)]
        congr 1
        omega
      rw [e_220_69]
      simp only [e_220_0, e_220_1, e_220_2, e_220_5, e_220_6, e_220_8, e_220_9, e_220_12, e_220_15, e_220_16, e_220_17, e_220_20, e_220_21, e_220_22, e_220_23, e_220_26, e_220_29, e_220_30, e_220_31, e_220_32, e_220_35, e_220_36, e_220_37, e_220_40, e_220_43, e_220_46, e_220_47, e_220_48, e_220_51, e_220_52, e_220_53, e_220_54, e_220_55, e_220_56, e_220_57, e_220_58, e_220_59, e_220_62, e_220_63, e_220_64, e_220_66, e_220_67, e_220_71, e_220_72, e_220_75, e_220_76, e_220_77, e_220_80, e_220_81, e_220_82, e_220_84, e_220_85, e_220_86, e_220_87, e_220_88, e_220_89, e_220_90, e_220_93, e_220_95, e_220_96, e_220_97, e_220_98, e_220_101, e_220_103, e_220_104, e_220_105, e_220_108, e_220_110, e_220_113, e_220_114, e_220_117, e_220_118, e_220_120, e_220_121, e_220_125, e_220_126, e_220_129, e_220_132, e_220_134, e_220_137, e_220_139, e_220_141, e_220_144, e_220_147, e_220_150, e_220_151, e_220_153, e_220_154, e_220_156, e_220_157, e_220_158, e_220_159, e_220_160, e_220_163, e_220_164, e_220_165, e_220_168, e_220_169, e_220_172, e_220_175, e_220_177, e_220_179, e_220_180, e_220_181, e_220_183, e_220_184, e_220_185, e_220_186, e_220_188, e_220_191, e_220_192, e_220_195, e_220_196, e_220_198, e_220_200, e_220_203, e_220_204, e_220_207, e_220_209, e_220_211, e_220_212, e_220_215, e_220_219, e_220_222, e_220_224, e_220_225, e_220_228, e_220_229, e_220_231, e_220_234, e_220_237, e_220_239, e_220_240, e_220_243, e_220_246, e_220_248, e_220_250, e_220_251, e_220_252, e_220_253, e_220_256, e_220_258, e_220_259, e_220_260, e_220_261, e_220_262, e_220_264, e_220_267, e_220_270, e_220_271, Option.bind_some, Option.bind_none, m_kt, m_kn, Option.toList_some, Option.toList_none, List.nil_append, List.cons_append, List.append_nil, ltn, ite_not, ↓reduceIte, true_or, or_true, nP1, oI_s, oI_n, bI_f, bI_t, i1_0, i0_0, Bool.false_eq_true, not_true_eq_false, not_false_eq_true, gM1 Hv.1, e5, c1, shl_nI, w1, gM17 Hv.1, w74, a1.g19, (a1.ms H).isc, em, z']
      rw [nI_0] at e
      rw [e]
      simp only [e_220_0, e_220_1, e_220_2, e_220_5, e_220_6, e_220_8, e_220_9, e_220_12, e_220_15, e_220_16, e_220_17, e_220_20, e_220_21, e_220_22, e_220_23, e_220_26, e_220_29, e_220_30, e_220_31, e_220_32, e_220_35, e_220_36, e_220_37, e_220_40, e_220_43, e_220_46, e_220_47, e_220_48, e_220_51, e_220_52, e_220_53, e_220_54, e_220_55, e_220_56, e_220_57, e_220_58, e_220_59, e_220_62, e_220_63, e_220_64, e_220_66, e_220_67, e_220_71, e_220_72, e_220_75, e_220_76, e_220_77, e_220_80, e_220_81, e_220_82, e_220_84, e_220_85, e_220_86, e_220_87, e_220_88, e_220_89, e_220_90, e_220_93, e_220_95, e_220_96, e_220_97, e_220_98, e_220_101, e_220_103, e_220_104, e_220_105, e_220_108, e_220_110, e_220_113, e_220_114, e_220_117, e_220_118, e_220_120, e_220_121, e_220_125, e_220_126, e_220_129, e_220_132, e_220_134, e_220_137, e_220_139, e_220_141, e_220_144, e_220_147, e_220_150, e_220_151, e_220_153, e_220_154, e_220_156, e_220_157, e_220_158, e_220_159, e_220_160, e_220_163, e_220_164, e_220_165, e_220_168, e_220_169, e_220_172, e_220_175, e_220_177, e_220_179, e_220_180, e_220_181, e_220_183, e_220_184, e_220_185, e_220_186, e_220_188, e_220_191, e_220_192, e_220_195, e_220_196, e_220_198, e_220_200, e_220_203, e_220_204, e_220_207, e_220_209, e_220_211, e_220_212, e_220_215, e_220_218, e_220_219, e_220_222, e_220_224, e_220_225, e_220_228, e_220_229, e_220_231, e_220_234, e_220_237, e_220_239, e_220_240, e_220_243, e_220_246, e_220_248, e_220_250, e_220_251, e_220_252, e_220_253, e_220_256, e_220_258, e_220_259, e_220_260, e_220_261, e_220_262, e_220_264, e_220_267, e_220_270, e_220_271, Option.bind_some, Option.bind_none, m_kt, m_kn, Option.toList_some, Option.toList_none, List.nil_append, List.cons_append, List.append_nil, ltn, ite_not, ↓reduceIte, true_or, or_true, nP1, oI_s, oI_n, bI_f, bI_t, i1_0, i0_0, Bool.false_eq_true, not_true_eq_false, not_false_eq_true, gM17 H3.1, gs, q0, gM1 H3.1, n30, nL247, nA, ga, tt]
end Sells2
