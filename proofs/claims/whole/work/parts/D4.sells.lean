/-! The reference's market: seer by seer -/
theorem pdS_c {of : Nat → Nat → Nat} {c c' : Nat → Bool} : ∀ k, (∀ p, p < k → c p = c' p) → pdA of c k = pdA of c' k
  | 0, _ => rfl
  | k + 1, h => by
    have e : ∀ c, pdA of c (k + 1) = pdT of c k (pdA of c k) := fun _ => rfl
    rw [e, e, pdS_c k (fun p hp => h p (by omega))]
    unfold pdT
    rw [h k (by omega)]
theorem SH_66 {h : mH} (S : SH h) (c : mC) : SH (h.1.set 66 c, h.2) := by
  refine ⟨fun b n q => ?_, ?_, ?_, ?_, ?_, ?_, ?_⟩
  · obtain ⟨f, e⟩ := S.1 b n q
    refine ⟨f, (hne (fun z => ?_)).trans e⟩
    subst z
    exact absurd (tab_ne q).1 (by decide)
  · exact S.2.1.elim fun s e => ⟨s, (hne (by decide)).trans e⟩
  · exact S.2.2.1.elim fun x e => e.elim fun y e => e.elim fun z e => ⟨x, y, z, (hne (by decide)).trans e⟩
  · exact S.2.2.2.1.elim fun s e => ⟨s, (hne (by decide)).trans e⟩
  · exact S.2.2.2.2.1.elim fun s e => ⟨s, (hne (by decide)).trans e⟩
  · exact S.2.2.2.2.2.1.elim fun s e => ⟨s, (hne (by decide)).trans e⟩
  · exact S.2.2.2.2.2.2.elim fun s e => ⟨s, (hne (by decide)).trans e⟩
/-- the heap, but for scratch and what is on sale -/
def sx (h : mH) (m : Nat → Int32) (x : Int32) (v : mH) : Prop := SH v ∧ v.1[66]? = some (oM (upd m 19 x)) ∧ out (fun b => SCR b ∨ b = 66) h v
def pS (v : mH) (m : Nat → Int32) (x : Int32) : mH := (v.1.set 66 (oM (upd m 19 x)), v.2)
theorem sx.sc {h v v' : mH} {m : Nat → Int32} {x : Int32} (a : sx h m x v) (s : sc v v') : sx h m x v' := ⟨s.2 a.1, (sc_at s (by decide)).trans a.2.1, (a.2.2.tr s.1).mo (fun b q => by rcases q with q | q; exact q; exact .inl q)⟩
theorem sx.put {h v : mH} {m : Nat → Int32} {x : Int32} (a : sx h m x v) (y : Int32) : sx h m y (pS v m y) ∧ m_pf v 66 8 19 (.int y) = some (pS v m y) := by
  refine ⟨⟨SH_66 a.1 _, hget a.2.1, (a.2.2.tr (out.st (A := fun b => b = 66) v _ rfl)).mo (fun b q => by rcases q with q | q; exact q; exact .inr q)⟩, ?_⟩
  rw [pM19 a.2.1, upd_upd]
  rfl
theorem sx.ms {h v : mH} {m : Nat → Int32} {x : Int32} {W : WD} (a : sx h m x v) (H : MS h m W) : MS v (upd m 19 x) W := ⟨a.2.1, (a.2.2.2.2 67 (by unfold SCR; decide)).trans H.2⟩
theorem sx.g19 {h v : mH} {m : Nat → Int32} {x : Int32} (a : sx h m x v) : m_gf v 66 8 19 = some (.int x) := by
  rw [gM19 a.2.1, show upd m 19 x 19 = x from pk_us]
theorem sx_0 {h : mH} {m : Nat → Int32} {W : WD} (H : MS h m W) (S : SH h) : sx h m (m 19) h := by
  have : upd m 19 (m 19) = m := by
    funext j
    unfold upd
    split
    · rename_i z; rw [z]
    · rfl
  exact ⟨S, by rw [this]; exact H.1, out.rf _ _⟩
section SellsM
variable {h : mH} {m : Nat → Int32} {W : WD}
theorem most_sx (O : mO) (d : Nat) (H : MS h m W) (R : rng W) {x : Int32} {v : mH} (a : sx h m x v) {S : Nat} (hS : S < 64) {c : Nat → Bool} (hc : ∀ p, p < pN W → bt x p = c p) : ∃ w, ev O (d + 1) 219 0 [.ref 66, .int (nI S), mJ, mJ, mJ] [] v = some (.inl (some (.int (nI (pdA (oW W) c (pN W) S)))), hPd v w) ∧ sx h m x (hPd v w) := by
  obtain ⟨w, e⟩ := mostOf_ev O d (a.ms H) R a.1 hS
  refine ⟨w, ?_, a.sc (sc_hPd w)⟩
  rw [show upd m 19 x 19 = x from pk_us, pdS_c _ hc] at e
  exact e
/-- a seer's pane -/
theorem sells123 (O : mO) (d : Nat) (H : MS h m W) (R : rng W) {had hr left all due : Int32} {s L D : Nat} (hs : s < 6) (hL : L < 64) (hl : left = nI L) {c : Nat → Bool} (hc : ∀ p, p < pN W → bt had p = c p) (hdu : due = nI D) (hD : D < 2 ^ 30) {q : Nat} (hq : q < pN W) (cq : c q = true) (dq : pdA (oW W) (cX c q) (pN W) L + oW W s q = D) (nq : ∀ p, p < q → c p = true → pdA (oW W) (cX c p) (pN W) L + oW W s p ≠ D) : ∀ k p, p + k = q → ∀ (x : Int32) (v : mH) (f : Nat → Int32), sx h m x v → v.1[74]? = some (aI 6 f) → ∃ v', sx h m (had &&& (shl1 q ^^^ -1)) v' ∧ v'.1[74]? = some (aI 6 (upd f s (nI q))) ∧ ev O (d + 2) 220 123 [.ref 66, .int hr, .int left, .int all, .int due, .int (nI s), .int had, .int 0, .int (nI p)] [] v = ev O (d + 2) 220 218 [.ref 66, .int hr, .int left, .int all, .int due, .int (nI s), .int had, .int 1, .int (nI (q + 1))] [] v' := by
  have hN := pN_le R
  have hX : ∀ p, p < pN W → ∀ r, r < pN W → bt (had &&& (shl1 p ^^^ -1)) r = cX c p r := fun p hp r hr => by
    rw [b_and, bt_not _ (by omega), bt_shl1 (by omega) (by omega), hc r hr]
    rfl
  subst hl hdu
  -- one pane looked at
  have look : ∀ p, p < pN W → c p = true → ∀ (x : Int32) (v : mH) (f : Nat → Int32), sx h m x v → v.1[74]? = some (aI 6 f) → ∃ v', sx h m (had &&& (shl1 p ^^^ -1)) v' ∧ v'.1[74]? = some (aI 6 (if pdA (oW W) (cX c p) (pN W) L + oW W s p = D then upd f s (nI p) else f)) ∧ ev O (d + 2) 220 123 [.ref 66, .int hr, .int (nI L), .int all, .int (nI D), .int (nI s), .int had, .int 0, .int (nI p)] [] v = ev O (d + 2) 220 123 [.ref 66, .int hr, .int (nI L), .int all, .int (nI D), .int (nI s), .int had, .int (if pdA (oW W) (cX c p) (pN W) L + oW W s p = D then 1 else 0), .int (nI (p + 1))] [] v' := by
    intro p hp cp x v f a g
    obtain ⟨a1, ep⟩ := a.put (had &&& (shl1 p ^^^ -1))
    obtain ⟨w, em, a2⟩ := most_sx O d H R a1 hL (hX p hp)
    have g1 : (pS v m (had &&& (shl1 p ^^^ -1))).1[74]? = some (aI 6 f) := (hne (by decide)).trans g
    have g2 : (hPd (pS v m (had &&& (shl1 p ^^^ -1))) w).1[74]? = some (aI 6 f) := (hne (by decide)).trans g1
    obtain ⟨o1, o2⟩ := of_e R hs (show p < 30 by omega)
    have pb := pdA_b R (cX c p) (pN W) hN L hL
    have Hv := a.ms H
    have H2 := a2.ms H
    have ga : m_ai (hPd (pS v m (had &&& (shl1 p ^^^ -1))) w) 67 (nI (247 + 30 * s + p)) = some (nI (oW W s p)) := by rw [H2.w.w (by omega), Nat.add_assoc, o1]
    have c1 : ¬ nI (pN W) ≤ nI p := nI_ge hp (by omega)
    have eh := has_ev O (d + 1) v had (show p < 32 by omega)
    rw [hc p hp, cp] at eh
    have eq := nEq (a := pdA (oW W) (cX c p) (pN W) L + oW W s p) (b := D) (by omega) (by omega)
    by_cases z : pdA (oW W) (cX c p) (pN W) L + oW W s p = D
    · rw [if_pos z, if_pos z]
      have z' : (nI (pdA (oW W) (cX c p) (pN W) L + oW W s p) = nI D) = True := by rw [eq]; exact eq_true z
      refine ⟨_, a2.sc (sc_set (b := 74) (n := 6) (by decide) (upd f s (nI p))), hget g2, ?_⟩
      rw [e_220_123]
      simp only [e_220_0, e_220_1, e_220_2, e_220_5, e_220_6, e_220_8, e_220_9, e_220_12, e_220_15, e_220_16, e_220_17, e_220_20, e_220_21, e_220_22, e_220_23, e_220_26, e_220_29, e_220_30, e_220_31, e_220_32, e_220_35, e_220_36, e_220_37, e_220_40, e_220_43, e_220_46, e_220_47, e_220_48, e_220_51, e_220_52, e_220_53, e_220_54, e_220_55, e_220_56, e_220_57, e_220_58, e_220_59, e_220_62, e_220_63, e_220_64, e_220_66, e_220_67, e_220_71, e_220_72, e_220_75, e_220_76, e_220_77, e_220_80, e_220_81, e_220_82, e_220_84, e_220_85, e_220_86, e_220_87, e_220_88, e_220_89, e_220_90, e_220_93, e_220_95, e_220_96, e_220_97, e_220_98, e_220_101, e_220_103, e_220_104, e_220_105, e_220_108, e_220_110, e_220_113, e_220_114, e_220_117, e_220_118, e_220_120, e_220_121, e_220_125, e_220_126, e_220_129, e_220_132, e_220_134, e_220_137, e_220_139, e_220_141, e_220_144, e_220_147, e_220_150, e_220_151, e_220_153, e_220_154, e_220_156, e_220_157, e_220_158, e_220_159, e_220_160, e_220_163, e_220_164, e_220_165, e_220_168, e_220_169, e_220_172, e_220_175, e_220_177, e_220_179, e_220_180, e_220_181, e_220_183, e_220_184, e_220_185, e_220_186, e_220_188, e_220_191, e_220_192, e_220_195, e_220_196, e_220_198, e_220_200, e_220_203, e_220_204, e_220_207, e_220_209, e_220_211, e_220_212, e_220_215, e_220_219, e_220_222, e_220_224, e_220_225, e_220_228, e_220_229, e_220_231, e_220_234, e_220_237, e_220_239, e_220_240, e_220_243, e_220_246, e_220_248, e_220_250, e_220_251, e_220_252, e_220_253, e_220_256, e_220_258, e_220_259, e_220_260, e_220_261, e_220_262, e_220_264, e_220_267, e_220_270, e_220_271, Option.bind_some, Option.bind_none, m_kt, m_kn, Option.toList_some, Option.toList_none, List.nil_append, List.cons_append, List.append_nil, ltn, ite_not, ↓reduceIte, true_or, or_true, nP1, oI_s, oI_n, bI_f, bI_t, i1_0, i0_0, Bool.false_eq_true, not_true_eq_false, not_false_eq_true, Hv.isc, panes_ev O (d + 1) Hv.w R, c1, eh, shl_nI, ep, a1.2.1, (a1.ms H).isc, em, gM1 H2.1, n30, nL247, nA, ga, z', gM17 H2.1, si_n g2 hs (by decide)]
    · rw [if_neg z, if_neg z]
      have z' : ¬ (nI (pdA (oW W) (cX c p) (pN W) L + oW W s p) = nI D) := by rw [eq]; exact z
      refine ⟨_, a2, g2, ?_⟩
      rw [e_220_123]
      simp only [e_220_0, e_220_1, e_220_2, e_220_5, e_220_6, e_220_8, e_220_9, e_220_12, e_220_15, e_220_16, e_220_17, e_220_20, e_220_21, e_220_22, e_220_23, e_220_26, e_220_29, e_220_30, e_220_31, e_220_32, e_220_35, e_220_36, e_220_37, e_220_40, e_220_43, e_220_46, e_220_47, e_220_48, e_220_51, e_220_52, e_220_53, e_220_54, e_220_55, e_220_56, e_220_57, e_220_58, e_220_59, e_220_62, e_220_63, e_220_64, e_220_66, e_220_67, e_220_71, e_220_72, e_220_75, e_220_76, e_220_77, e_220_80, e_220_81, e_220_82, e_220_84, e_220_85, e_220_86, e_220_87, e_220_88, e_220_89, e_220_90, e_220_93, e_220_95, e_220_96, e_220_97, e_220_98, e_220_101, e_220_103, e_220_104, e_220_105, e_220_108, e_220_110, e_220_113, e_220_114, e_220_117, e_220_118, e_220_120, e_220_121, e_220_125, e_220_126, e_220_129, e_220_132, e_220_134, e_220_137, e_220_139, e_220_141, e_220_144, e_220_147, e_220_150, e_220_151, e_220_153, e_220_154, e_220_156, e_220_157, e_220_158, e_220_159, e_220_160, e_220_163, e_220_164, e_220_165, e_220_168, e_220_169, e_220_172, e_220_175, e_220_177, e_220_179, e_220_180, e_220_181, e_220_183, e_220_184, e_220_185, e_220_186, e_220_188, e_220_191, e_220_192, e_220_195, e_220_196, e_220_198, e_220_200, e_220_203, e_220_204, e_220_207, e_220_209, e_220_211, e_220_212, e_220_215, e_220_219, e_220_222, e_220_224, e_220_225, e_220_228, e_220_229, e_220_231, e_220_234, e_220_237, e_220_239, e_220_240, e_220_243, e_220_246, e_220_248, e_220_250, e_220_251, e_220_252, e_220_253, e_220_256, e_220_258, e_220_259, e_220_260, e_220_261, e_220_262, e_220_264, e_220_267, e_220_270, e_220_271, Option.bind_some, Option.bind_none, m_kt, m_kn, Option.toList_some, Option.toList_none, List.nil_append, List.cons_append, List.append_nil, ltn, ite_not, ↓reduceIte, true_or, or_true, nP1, oI_s, oI_n, bI_f, bI_t, i1_0, i0_0, Bool.false_eq_true, not_true_eq_false, not_false_eq_true, Hv.isc, panes_ev O (d + 1) Hv.w R, c1, eh, shl_nI, ep, (a1.ms H).isc, em, gM1 H2.1, n30, nL247, nA, ga, z']
  intro k
  induction k with
  | zero =>
    intro p hp x v f a g
    have hp : p = q := by omega
    subst hp
    obtain ⟨v', a', g', e⟩ := look p hq cq x v f a g
    rw [if_pos dq] at g' e
    refine ⟨v', a', g', e.trans ?_⟩
    have Hv := a'.ms H
    rw [e_220_123]
    by_cases z : nI (pN W) ≤ nI (p + 1) <;> simp only [e_220_0, e_220_1, e_220_2, e_220_5, e_220_6, e_220_8, e_220_9, e_220_12, e_220_15, e_220_16, e_220_17, e_220_20, e_220_21, e_220_22, e_220_23, e_220_26, e_220_29, e_220_30, e_220_31, e_220_32, e_220_35, e_220_36, e_220_37, e_220_40, e_220_43, e_220_46, e_220_47, e_220_48, e_220_51, e_220_52, e_220_53, e_220_54, e_220_55, e_220_56, e_220_57, e_220_58, e_220_59, e_220_62, e_220_63, e_220_64, e_220_66, e_220_67, e_220_71, e_220_72, e_220_75, e_220_76, e_220_77, e_220_80, e_220_81, e_220_82, e_220_84, e_220_85, e_220_86, e_220_87, e_220_88, e_220_89, e_220_90, e_220_93, e_220_95, e_220_96, e_220_97, e_220_98, e_220_101, e_220_103, e_220_104, e_220_105, e_220_108, e_220_110, e_220_113, e_220_114, e_220_117, e_220_118, e_220_120, e_220_121, e_220_125, e_220_126, e_220_129, e_220_132, e_220_134, e_220_137, e_220_139, e_220_141, e_220_144, e_220_147, e_220_150, e_220_151, e_220_153, e_220_154, e_220_156, e_220_157, e_220_158, e_220_159, e_220_160, e_220_163, e_220_164, e_220_165, e_220_168, e_220_169, e_220_172, e_220_175, e_220_177, e_220_179, e_220_180, e_220_181, e_220_183, e_220_184, e_220_185, e_220_186, e_220_188, e_220_191, e_220_192, e_220_195, e_220_196, e_220_198, e_220_200, e_220_203, e_220_204, e_220_207, e_220_209, e_220_211, e_220_212, e_220_215, e_220_219, e_220_222, e_220_224, e_220_225, e_220_228, e_220_229, e_220_231, e_220_234, e_220_237, e_220_239, e_220_240, e_220_243, e_220_246, e_220_248, e_220_250, e_220_251, e_220_252, e_220_253, e_220_256, e_220_258, e_220_259, e_220_260, e_220_261, e_220_262, e_220_264, e_220_267, e_220_270, e_220_271, Option.bind_some, Option.bind_none, m_kt, m_kn, Option.toList_some, Option.toList_none, List.nil_append, List.cons_append, List.append_nil, ltn, ite_not, ↓reduceIte, true_or, or_true, nP1, oI_s, oI_n, bI_f, bI_t, i1_0, i0_0, Bool.false_eq_true, not_true_eq_false, not_false_eq_true, Hv.isc, panes_ev O (d + 1) Hv.w R, z]
  | succ k ih =>
    intro p hp x v f a g
    cases cp : c p
    · obtain ⟨v', a', g', e⟩ := ih (p + 1) (by omega) x v f a g
      refine ⟨v', a', g', ?_⟩
      have Hv := a.ms H
      have c1 : ¬ nI (pN W) ≤ nI p := nI_ge (by omega) (by omega)
      have eh := has_ev O (d + 1) v had (show p < 32 by omega)
      rw [hc p (by omega), cp] at eh
      rw [e_220_123]
      simp only [e_220_0, e_220_1, e_220_2, e_220_5, e_220_6, e_220_8, e_220_9, e_220_12, e_220_15, e_220_16, e_220_17, e_220_20, e_220_21, e_220_22, e_220_23, e_220_26, e_220_29, e_220_30, e_220_31, e_220_32, e_220_35, e_220_36, e_220_37, e_220_40, e_220_43, e_220_46, e_220_47, e_220_48, e_220_51, e_220_52, e_220_53, e_220_54, e_220_55, e_220_56, e_220_57, e_220_58, e_220_59, e_220_62, e_220_63, e_220_64, e_220_66, e_220_67, e_220_71, e_220_72, e_220_75, e_220_76, e_220_77, e_220_80, e_220_81, e_220_82, e_220_84, e_220_85, e_220_86, e_220_87, e_220_88, e_220_89, e_220_90, e_220_93, e_220_95, e_220_96, e_220_97, e_220_98, e_220_101, e_220_103, e_220_104, e_220_105, e_220_108, e_220_110, e_220_113, e_220_114, e_220_117, e_220_118, e_220_120, e_220_121, e_220_125, e_220_126, e_220_129, e_220_132, e_220_134, e_220_137, e_220_139, e_220_141, e_220_144, e_220_147, e_220_150, e_220_151, e_220_153, e_220_154, e_220_156, e_220_157, e_220_158, e_220_159, e_220_160, e_220_163, e_220_164, e_220_165, e_220_168, e_220_169, e_220_172, e_220_175, e_220_177, e_220_179, e_220_180, e_220_181, e_220_183, e_220_184, e_220_185, e_220_186, e_220_188, e_220_191, e_220_192, e_220_195, e_220_196, e_220_198, e_220_200, e_220_203, e_220_204, e_220_207, e_220_209, e_220_211, e_220_212, e_220_215, e_220_219, e_220_222, e_220_224, e_220_225, e_220_228, e_220_229, e_220_231, e_220_234, e_220_237, e_220_239, e_220_240, e_220_243, e_220_246, e_220_248, e_220_250, e_220_251, e_220_252, e_220_253, e_220_256, e_220_258, e_220_259, e_220_260, e_220_261, e_220_262, e_220_264, e_220_267, e_220_270, e_220_271, Option.bind_some, Option.bind_none, m_kt, m_kn, Option.toList_some, Option.toList_none, List.nil_append, List.cons_append, List.append_nil, ltn, ite_not, ↓reduceIte, true_or, or_true, nP1, oI_s, oI_n, bI_f, bI_t, i1_0, i0_0, Bool.false_eq_true, not_true_eq_false, not_false_eq_true, Hv.isc, panes_ev O (d + 1) Hv.w R, c1, eh]
      exact e
    · obtain ⟨v1, a1, g1, e1⟩ := look p (by omega) cp x v f a g
      rw [if_neg (nq p (by omega) cp)] at g1 e1
      obtain ⟨v', a', g', e⟩ := ih (p + 1) (by omega) _ v1 f a1 g1
      exact ⟨v', a', g', e1.trans e⟩
end SellsM
