/-! The reference's sale and lost -/
/-- a question that leaves another set on sale -/
def MX (r : Option mR) (h : mH) (m : Nat → Int32) (t : Int32) (v : Value) : Prop := ∃ h' x, r = some (.inl (some v), h') ∧ sx (tH h m t) (upd m 0 t) x h'
section SaleM
variable {h : mH} {m : Nat → Int32} {W : WD}
theorem MX_0 (H : MS h m W) (S : SH h) {r : Option mR} {t : Int32} {v : Value} (e : r = some (.inl (some v), tH h m t)) : MX r h m t v := ⟨_, _, e, sx_0 (H.t t) (SH_tH S m t)⟩
theorem Msale_ev (O : mO) (d : Nat) (H : MS h m W) (R : rng W) (S : SH h) (T : TW W) (y x : Int32) : MX (ev O (d + 8) 221 0 [.ref 66, .int y, .int x, mJ] [] h) h m (nI (codeSa W y x)) (.int (if codeSa W y x = 0 then salV W y x else 0)) := by
  have hN := pN_le R
  have h6 : sN W ≤ 6 := R.1.2.2.2.1.2
  have H0 := H.t 0
  have w5 := rW5 R
  unfold codeSa salV
  cases a1 : inB y 0 23
  · refine MX_0 H S ?_
    simp only [e_221_0, e_221_1, e_221_2, e_221_5, e_221_6, e_221_7, e_221_10, e_221_13, e_221_14, e_221_15, e_221_18, e_221_19, e_221_20, e_221_23, e_221_26, e_221_27, e_221_30, e_221_31, e_221_32, e_221_35, e_221_38, e_221_39, e_221_40, e_221_41, e_221_42, e_221_45, e_221_46, e_221_47, e_221_48, e_221_51, e_221_52, e_221_55, e_221_56, e_221_59, e_221_60, e_221_61, Option.bind_some, Option.bind_none, m_kt, m_kn, Option.toList_some, Option.toList_none, List.nil_append, List.cons_append, List.append_nil, ltn, ite_not, ↓reduceIte, true_or, or_true, nP1, oI_s, oI_n, bI_f, bI_t, i1_0, i0_0, Bool.false_eq_true, not_true_eq_false, not_false_eq_true, nI_0, m1m1, Nat.one_ne_zero, two_ne0, pMt H, H0.isc, noPane_ev O _ H0.w R, noHour_ev, noSeer_ev O _ H0.w, in_ev, Bool.not_false, Bool.not_true, bI_f, bI_t, thr0_ev O _ H0, thr1_ev O _ H0, i1_0, i0_0, z01, o01, tH_tH, Bool.false_eq_true, a1, Bool.false_and]
    rfl
  · obtain ⟨u, x', v, f, hu, es, a, g, hf⟩ := sells_ev O d H0 R (SH_tH S m 0) T y
    have Hv := a.ms H0
    by_cases a2 : x = -1
    · subst a2
      refine ⟨v, x', ?_, a⟩
      simp only [e_221_0, e_221_1, e_221_2, e_221_5, e_221_6, e_221_7, e_221_10, e_221_13, e_221_14, e_221_15, e_221_18, e_221_19, e_221_20, e_221_23, e_221_26, e_221_27, e_221_30, e_221_31, e_221_32, e_221_35, e_221_38, e_221_39, e_221_40, e_221_41, e_221_42, e_221_45, e_221_46, e_221_47, e_221_48, e_221_51, e_221_52, e_221_55, e_221_56, e_221_59, e_221_60, e_221_61, Option.bind_some, Option.bind_none, m_kt, m_kn, Option.toList_some, Option.toList_none, List.nil_append, List.cons_append, List.append_nil, ltn, ite_not, ↓reduceIte, true_or, or_true, nP1, oI_s, oI_n, bI_f, bI_t, i1_0, i0_0, Bool.false_eq_true, not_true_eq_false, not_false_eq_true, nI_0, m1m1, Nat.one_ne_zero, two_ne0, pMt H, H0.isc, noPane_ev O _ H0.w R, noHour_ev, noSeer_ev O _ H0.w, in_ev, Bool.not_false, Bool.not_true, bI_f, bI_t, thr0_ev O _ H0, thr1_ev O _ H0, i1_0, i0_0, z01, o01, tH_tH, Bool.false_eq_true, a1, es, decide_true, Bool.true_or, Bool.and_self, opt_p R hN hu]
    · cases a3 : inB x 0 (nI (sN W) - 1)
      · refine MX_0 H S ?_
        simp only [e_221_0, e_221_1, e_221_2, e_221_5, e_221_6, e_221_7, e_221_10, e_221_13, e_221_14, e_221_15, e_221_18, e_221_19, e_221_20, e_221_23, e_221_26, e_221_27, e_221_30, e_221_31, e_221_32, e_221_35, e_221_38, e_221_39, e_221_40, e_221_41, e_221_42, e_221_45, e_221_46, e_221_47, e_221_48, e_221_51, e_221_52, e_221_55, e_221_56, e_221_59, e_221_60, e_221_61, Option.bind_some, Option.bind_none, m_kt, m_kn, Option.toList_some, Option.toList_none, List.nil_append, List.cons_append, List.append_nil, ltn, ite_not, ↓reduceIte, true_or, or_true, nP1, oI_s, oI_n, bI_f, bI_t, i1_0, i0_0, Bool.false_eq_true, not_true_eq_false, not_false_eq_true, nI_0, m1m1, Nat.one_ne_zero, two_ne0, pMt H, H0.isc, noPane_ev O _ H0.w R, noHour_ev, noSeer_ev O _ H0.w, in_ev, Bool.not_false, Bool.not_true, bI_f, bI_t, thr0_ev O _ H0, thr1_ev O _ H0, i1_0, i0_0, z01, o01, tH_tH, Bool.false_eq_true, a1, a2, w5, a3, decide_false, Bool.or_self, Bool.and_false]
        rfl
      · have b3 := a3
        obtain ⟨s, hs, rfl⟩ := inB_ix (by omega) a3
        have gs : m_ai v 74 (nI s) = some (nI (u s) - 1) := by rw [ai_n g (by omega) (by decide), hf s hs]
        rw [nI_clamp (show s < 2 ^ 31 by omega), decide_eq_false a2]
        refine ⟨v, x', ?_, a⟩
        simp only [e_221_0, e_221_1, e_221_2, e_221_5, e_221_6, e_221_7, e_221_10, e_221_13, e_221_14, e_221_15, e_221_18, e_221_19, e_221_20, e_221_23, e_221_26, e_221_27, e_221_30, e_221_31, e_221_32, e_221_35, e_221_38, e_221_39, e_221_40, e_221_41, e_221_42, e_221_45, e_221_46, e_221_47, e_221_48, e_221_51, e_221_52, e_221_55, e_221_56, e_221_59, e_221_60, e_221_61, Option.bind_some, Option.bind_none, m_kt, m_kn, Option.toList_some, Option.toList_none, List.nil_append, List.cons_append, List.append_nil, ltn, ite_not, ↓reduceIte, true_or, or_true, nP1, oI_s, oI_n, bI_f, bI_t, i1_0, i0_0, Bool.false_eq_true, not_true_eq_false, not_false_eq_true, nI_0, m1m1, Nat.one_ne_zero, two_ne0, pMt H, H0.isc, noPane_ev O _ H0.w R, noHour_ev, noSeer_ev O _ H0.w, in_ev, Bool.not_false, Bool.not_true, bI_f, bI_t, thr0_ev O _ H0, thr1_ev O _ H0, i1_0, i0_0, z01, o01, tH_tH, Bool.false_eq_true, a1, a2, w5, b3, es, gM17 Hv.1, gs, decide_false, Bool.or_true, Bool.and_self, opt_d R hN hu (show s < 6 by omega)]
theorem lost84 (O : mO) (d : Nat) (H : MS h m W) (R : rng W) (T : TW W) (hr i j k : Int32) {v : mH} (a : sx h m 0 v) : ∃ v', sx h m (bs (pN W) (fun p => sv W p hr)) v' ∧ ev O (d + 7) 222 84 [.ref 66, .int hr, .int i, .int j, .int k, .int 0] [] v = ev O (d + 7) 222 84 [.ref 66, .int hr, .int i, .int j, .int k, .int (nI (pN W))] [] v' := by
  have hN := pN_le R
  have e := lp_runJ (ν := mH) (F := fun p (_ : Int32) v => ev O (d + 7) 222 84 [.ref 66, .int hr, .int i, .int j, .int k, .int (nI p)] [] v) (f := fun p x => x ||| (if sv W p hr = true then shl1 p else 0)) (n := pN W) (fun p x w => sx h m x w) (fun p x w hp a => by
    have Hv := a.ms H
    have c1 : ¬ nI (pN W) ≤ nI p := nI_ge hp (by omega)
    obtain ⟨z, es⟩ := isSeen_ev O d Hv R a.1 T (show p < 30 by omega) hr
    have a1 := a.sc (sc_hVl z)
    obtain ⟨a2, ep⟩ := a1.put (x ||| (if sv W p hr = true then shl1 p else 0))
    refine ⟨_, a2, ?_⟩
    rw [e_222_84]
    cases q : sv W p hr <;> rw [q] at es ep <;> simp only [e_222_0, e_222_1, e_222_2, e_222_5, e_222_6, e_222_7, e_222_10, e_222_13, e_222_14, e_222_15, e_222_18, e_222_21, e_222_22, e_222_25, e_222_26, e_222_27, e_222_30, e_222_33, e_222_34, e_222_35, e_222_36, e_222_37, e_222_40, e_222_41, e_222_42, e_222_45, e_222_46, e_222_47, e_222_50, e_222_51, e_222_54, e_222_55, e_222_58, e_222_61, e_222_63, e_222_64, e_222_65, e_222_66, e_222_67, e_222_70, e_222_71, e_222_72, e_222_73, e_222_74, e_222_76, e_222_77, e_222_78, e_222_81, e_222_82, e_222_86, e_222_87, e_222_90, e_222_93, e_222_94, e_222_95, e_222_98, e_222_99, e_222_101, e_222_102, e_222_105, e_222_108, e_222_109, e_222_111, e_222_112, e_222_115, e_222_116, e_222_117, e_222_120, e_222_123, e_222_126, e_222_127, e_222_128, e_222_129, e_222_132, e_222_133, e_222_134, e_222_135, e_222_136, e_222_137, e_222_138, e_222_139, e_222_140, e_222_141, e_222_142, e_222_143, e_222_146, e_222_147, e_222_149, e_222_150, e_222_151, Option.bind_some, Option.bind_none, m_kt, m_kn, Option.toList_some, Option.toList_none, List.nil_append, List.cons_append, List.append_nil, ltn, ite_not, ↓reduceIte, true_or, or_true, nP1, oI_s, oI_n, bI_f, bI_t, i1_0, i0_0, Bool.false_eq_true, not_true_eq_false, not_false_eq_true, Hv.isc, panes_ev O (d + 6) Hv.w R, c1, a.g19, es, shl_nI] <;> simp only [Option.bind_some, Option.bind_none, m_kt, m_kn, Option.toList_some, Option.toList_none, List.nil_append, List.cons_append, List.append_nil, ltn, ite_not, ↓reduceIte, true_or, or_true, nP1, oI_s, oI_n, bI_f, bI_t, i1_0, i0_0, Bool.false_eq_true, not_true_eq_false, not_false_eq_true] at ep <;> simp only [ep, Option.bind_some, Option.bind_none, m_kt, m_kn, Option.toList_some, Option.toList_none, List.nil_append, List.cons_append, List.append_nil, ltn, ite_not, ↓reduceIte, true_or, or_true, nP1, oI_s, oI_n, bI_f, bI_t, i1_0, i0_0, Bool.false_eq_true, not_true_eq_false, not_false_eq_true]) 0 v a
  obtain ⟨v', a', e⟩ := e
  rw [bs_m] at a'
  exact ⟨v', a', e⟩
theorem sx_tr {h h1 h2 : mH} {m : Nat → Int32} {x y : Int32} (a : sx h m x h1) (b : sx h1 (upd m 19 x) y h2) : sx h m y h2 := ⟨b.1, by rw [b.2.1, upd_upd], a.2.2.tr1 b.2.2⟩
theorem Mlost_ev (O : mO) (d : Nat) (H : MS h m W) (R : rng W) (S : SH h) (T : TW W) (y x : Int32) : MX (ev O (d + 8) 222 0 [.ref 66, .int y, .int x, mJ, mJ, mJ] [] h) h m (nI (codeLo W y x)) (.int (if codeLo W y x = 0 then losV W y x else 0)) := by
  have hN := pN_le R
  have h6 : sN W ≤ 6 := R.1.2.2.2.1.2
  have H0 := H.t 0
  have w5 := rW5 R
  unfold codeLo losV
  cases a1 : inB y 0 23
  · refine MX_0 H S ?_
    simp only [e_222_0, e_222_1, e_222_2, e_222_5, e_222_6, e_222_7, e_222_10, e_222_13, e_222_14, e_222_15, e_222_18, e_222_21, e_222_22, e_222_25, e_222_26, e_222_27, e_222_30, e_222_33, e_222_34, e_222_35, e_222_36, e_222_37, e_222_40, e_222_41, e_222_42, e_222_45, e_222_46, e_222_47, e_222_50, e_222_51, e_222_54, e_222_55, e_222_58, e_222_61, e_222_63, e_222_64, e_222_65, e_222_66, e_222_67, e_222_70, e_222_71, e_222_72, e_222_73, e_222_74, e_222_76, e_222_77, e_222_78, e_222_81, e_222_82, e_222_86, e_222_87, e_222_90, e_222_93, e_222_94, e_222_95, e_222_98, e_222_99, e_222_101, e_222_102, e_222_105, e_222_108, e_222_109, e_222_111, e_222_112, e_222_115, e_222_116, e_222_117, e_222_120, e_222_123, e_222_126, e_222_127, e_222_128, e_222_129, e_222_132, e_222_133, e_222_134, e_222_135, e_222_136, e_222_137, e_222_138, e_222_139, e_222_140, e_222_141, e_222_142, e_222_143, e_222_146, e_222_147, e_222_149, e_222_150, e_222_151, Option.bind_some, Option.bind_none, m_kt, m_kn, Option.toList_some, Option.toList_none, List.nil_append, List.cons_append, List.append_nil, ltn, ite_not, ↓reduceIte, true_or, or_true, nP1, oI_s, oI_n, bI_f, bI_t, i1_0, i0_0, Bool.false_eq_true, not_true_eq_false, not_false_eq_true, nI_0, m1m1, Nat.one_ne_zero, two_ne0, pMt H, H0.isc, noPane_ev O _ H0.w R, noHour_ev, noSeer_ev O _ H0.w, in_ev, Bool.not_false, Bool.not_true, bI_f, bI_t, thr0_ev O _ H0, thr1_ev O _ H0, i1_0, i0_0, z01, o01, tH_tH, Bool.false_eq_true, a1, Bool.false_and]
    rfl
  · cases a3 : inB x 0 (nI (sN W) - 1)
    · refine MX_0 H S ?_
      simp only [e_222_0, e_222_1, e_222_2, e_222_5, e_222_6, e_222_7, e_222_10, e_222_13, e_222_14, e_222_15, e_222_18, e_222_21, e_222_22, e_222_25, e_222_26, e_222_27, e_222_30, e_222_33, e_222_34, e_222_35, e_222_36, e_222_37, e_222_40, e_222_41, e_222_42, e_222_45, e_222_46, e_222_47, e_222_50, e_222_51, e_222_54, e_222_55, e_222_58, e_222_61, e_222_63, e_222_64, e_222_65, e_222_66, e_222_67, e_222_70, e_222_71, e_222_72, e_222_73, e_222_74, e_222_76, e_222_77, e_222_78, e_222_81, e_222_82, e_222_86, e_222_87, e_222_90, e_222_93, e_222_94, e_222_95, e_222_98, e_222_99, e_222_101, e_222_102, e_222_105, e_222_108, e_222_109, e_222_111, e_222_112, e_222_115, e_222_116, e_222_117, e_222_120, e_222_123, e_222_126, e_222_127, e_222_128, e_222_129, e_222_132, e_222_133, e_222_134, e_222_135, e_222_136, e_222_137, e_222_138, e_222_139, e_222_140, e_222_141, e_222_142, e_222_143, e_222_146, e_222_147, e_222_149, e_222_150, e_222_151, Option.bind_some, Option.bind_none, m_kt, m_kn, Option.toList_some, Option.toList_none, List.nil_append, List.cons_append, List.append_nil, ltn, ite_not, ↓reduceIte, true_or, or_true, nP1, oI_s, oI_n, bI_f, bI_t, i1_0, i0_0, Bool.false_eq_true, not_true_eq_false, not_false_eq_true, nI_0, m1m1, Nat.one_ne_zero, two_ne0, pMt H, H0.isc, noPane_ev O _ H0.w R, noHour_ev, noSeer_ev O _ H0.w, in_ev, Bool.not_false, Bool.not_true, bI_f, bI_t, thr0_ev O _ H0, thr1_ev O _ H0, i1_0, i0_0, z01, o01, tH_tH, Bool.false_eq_true, a1, w5, a3, Bool.and_false]
      rfl
    · obtain ⟨u, x', v, f, hu, es, a, g, hf⟩ := sells_ev O d H0 R (SH_tH S m 0) T y
      have Hv := a.ms H0
      have b3 := a3
      obtain ⟨s, hs, rfl⟩ := inB_ix (by omega) a3
      have gs : m_ai v 74 (nI s) = some (nI (u s) - 1) := by rw [ai_n g (by omega) (by decide), hf s hs]
      rw [nI_clamp (show s < 2 ^ 31 by omega)]
      obtain ⟨b1, ep⟩ := a.put 0
      obtain ⟨u2, hu2, -, pb2, -⟩ := bw_way (c := fun p => sv W p y) R hN (2 ^ s)
      have p6 : 2 ^ sN W ≤ 64 := by rw [show 64 = 2 ^ 6 from rfl]; exact Nat.pow_le_pow_right (by omega) h6
      have p1 : 1 ≤ 2 ^ sN W := Nat.one_le_two_pow
      have tb : ∀ t, (2 ^ sN W - 1).testBit t = decide (t < sN W) := fun t => Nat.testBit_two_pow_sub_one _ _
      obtain ⟨w1, w2⟩ := st_wo (2 ^ sN W - 1) (by omega) s (by omega) (by rw [tb]; exact decide_eq_true hs)
      obtain ⟨v', a', e⟩ := lost84 O (d + 1) H0 R T y (nI s) (nI (payM (oW W) u)) (nI (pv (oW W) s (u s))) b1
      have Hv' := a'.ms H0
      have hb : ∀ p, p < pN W → bt (bs (pN W) (fun p => sv W p y)) p = sv W p y := fun p hp => by
        rw [bt_bs (by omega) _ (by omega), decide_eq_true hp, Bool.true_and]
      obtain ⟨w, em, a2⟩ := most_sx O (d + 6) H0 R a' (show wo (2 ^ sN W - 1) s < 64 by omega) hb
      rw [opt_pay h6 hN hu2 (fun t => by
        rw [wo_bt, tb, Nat.testBit_two_pow]
        congr 2
        rw [decide_eq_decide]
        exact eq_comm)] at em
      have e5 : m_ai v' 67 5 = some (nI (sN W)) := by rw [Hv'.w.w5, rW5 R]
      have fin : ev O (d + 8) 222 84 [.ref 66, .int y, .int (nI s), .int (nI (payM (oW W) u)), .int (nI (pv (oW W) s (u s))), .int 0] [] (pS v (upd m 0 0) 0) = some (.inl (some (.int (nI (payM (oW W) u2) - (nI (payM (oW W) u) - nI (pv (oW W) s (u s)))))), hPd v' w) := by
        refine e.trans ?_
        rw [e_222_84]
        simp only [e_222_0, e_222_1, e_222_2, e_222_5, e_222_6, e_222_7, e_222_10, e_222_13, e_222_14, e_222_15, e_222_18, e_222_21, e_222_22, e_222_25, e_222_26, e_222_27, e_222_30, e_222_33, e_222_34, e_222_35, e_222_36, e_222_37, e_222_40, e_222_41, e_222_42, e_222_45, e_222_46, e_222_47, e_222_50, e_222_51, e_222_54, e_222_55, e_222_58, e_222_61, e_222_63, e_222_64, e_222_65, e_222_66, e_222_67, e_222_70, e_222_71, e_222_72, e_222_73, e_222_74, e_222_76, e_222_77, e_222_78, e_222_81, e_222_82, e_222_86, e_222_87, e_222_90, e_222_93, e_222_94, e_222_95, e_222_98, e_222_99, e_222_101, e_222_102, e_222_105, e_222_108, e_222_109, e_222_111, e_222_112, e_222_115, e_222_116, e_222_117, e_222_120, e_222_123, e_222_126, e_222_127, e_222_128, e_222_129, e_222_132, e_222_133, e_222_134, e_222_135, e_222_136, e_222_137, e_222_138, e_222_139, e_222_140, e_222_141, e_222_142, e_222_143, e_222_146, e_222_147, e_222_149, e_222_150, e_222_151, Option.bind_some, Option.bind_none, m_kt, m_kn, Option.toList_some, Option.toList_none, List.nil_append, List.cons_append, List.append_nil, ltn, ite_not, ↓reduceIte, true_or, or_true, nP1, oI_s, oI_n, bI_f, bI_t, i1_0, i0_0, Bool.false_eq_true, not_true_eq_false, not_false_eq_true, Hv'.isc, panes_ev O (d + 7) Hv'.w R, Int32.le_refl, gM1 Hv'.1, e5, shl_nI, (st_n _ h6).1, w1, em]
      refine ⟨hPd v' w, _, ?_, a2⟩
      simp only [Bool.and_self, ↓reduceIte]
      rw [opt_p R hN hu, opt_p R hN hu2, opt_d R hN hu (show s < 6 by omega)]
      refine Eq.trans ?_ fin
      cases us : u s with
      | zero =>
        rw [us, show nI 0 - 1 = -1 by decide] at gs
        simp only [e_222_0, e_222_1, e_222_2, e_222_5, e_222_6, e_222_7, e_222_10, e_222_13, e_222_14, e_222_15, e_222_18, e_222_21, e_222_22, e_222_25, e_222_26, e_222_27, e_222_30, e_222_33, e_222_34, e_222_35, e_222_36, e_222_37, e_222_40, e_222_41, e_222_42, e_222_45, e_222_46, e_222_47, e_222_50, e_222_51, e_222_54, e_222_55, e_222_58, e_222_61, e_222_63, e_222_64, e_222_65, e_222_66, e_222_67, e_222_70, e_222_71, e_222_72, e_222_73, e_222_74, e_222_76, e_222_77, e_222_78, e_222_81, e_222_82, e_222_86, e_222_87, e_222_90, e_222_93, e_222_94, e_222_95, e_222_98, e_222_99, e_222_101, e_222_102, e_222_105, e_222_108, e_222_109, e_222_111, e_222_112, e_222_115, e_222_116, e_222_117, e_222_120, e_222_123, e_222_126, e_222_127, e_222_128, e_222_129, e_222_132, e_222_133, e_222_134, e_222_135, e_222_136, e_222_137, e_222_138, e_222_139, e_222_140, e_222_141, e_222_142, e_222_143, e_222_146, e_222_147, e_222_149, e_222_150, e_222_151, Option.bind_some, Option.bind_none, m_kt, m_kn, Option.toList_some, Option.toList_none, List.nil_append, List.cons_append, List.append_nil, ltn, ite_not, ↓reduceIte, true_or, or_true, nP1, oI_s, oI_n, bI_f, bI_t, i1_0, i0_0, Bool.false_eq_true, not_true_eq_false, not_false_eq_true, nI_0, m1m1, Nat.one_ne_zero, two_ne0, pMt H, H0.isc, noPane_ev O _ H0.w R, noHour_ev, noSeer_ev O _ H0.w, in_ev, Bool.not_false, Bool.not_true, bI_f, bI_t, thr0_ev O _ H0, thr1_ev O _ H0, i1_0, i0_0, z01, o01, tH_tH, Bool.false_eq_true, a1, w5, b3, es, gM17 Hv.1, gs, (show (0 ≤ (-1 : Int32)) = False by decide), ep, pv]
      | succ q =>
        rw [us, nI_pred] at gs
        have q30 : q < 30 := by have := vld_30 hN hu.1 s; omega
        obtain ⟨o1, o2⟩ := of_e R (show s < 6 by omega) q30
        have ga : m_ai v 67 (nI (247 + 30 * s + q)) = some (nI (oW W s q)) := by rw [Hv.w.w (by omega), Nat.add_assoc, o1]
        have q0 : (0 : Int32) ≤ nI q := nI_le (a := 0) (by omega) (by omega)
        have pe : pv (oW W) s (q + 1) = oW W s q := rfl
        rw [pe]
        simp only [e_222_0, e_222_1, e_222_2, e_222_5, e_222_6, e_222_7, e_222_10, e_222_13, e_222_14, e_222_15, e_222_18, e_222_21, e_222_22, e_222_25, e_222_26, e_222_27, e_222_30, e_222_33, e_222_34, e_222_35, e_222_36, e_222_37, e_222_40, e_222_41, e_222_42, e_222_45, e_222_46, e_222_47, e_222_50, e_222_51, e_222_54, e_222_55, e_222_58, e_222_61, e_222_63, e_222_64, e_222_65, e_222_66, e_222_67, e_222_70, e_222_71, e_222_72, e_222_73, e_222_74, e_222_76, e_222_77, e_222_78, e_222_81, e_222_82, e_222_86, e_222_87, e_222_90, e_222_93, e_222_94, e_222_95, e_222_98, e_222_99, e_222_101, e_222_102, e_222_105, e_222_108, e_222_109, e_222_111, e_222_112, e_222_115, e_222_116, e_222_117, e_222_120, e_222_123, e_222_126, e_222_127, e_222_128, e_222_129, e_222_132, e_222_133, e_222_134, e_222_135, e_222_136, e_222_137, e_222_138, e_222_139, e_222_140, e_222_141, e_222_142, e_222_143, e_222_146, e_222_147, e_222_149, e_222_150, e_222_151, Option.bind_some, Option.bind_none, m_kt, m_kn, Option.toList_some, Option.toList_none, List.nil_append, List.cons_append, List.append_nil, ltn, ite_not, ↓reduceIte, true_or, or_true, nP1, oI_s, oI_n, bI_f, bI_t, i1_0, i0_0, Bool.false_eq_true, not_true_eq_false, not_false_eq_true, nI_0, m1m1, Nat.one_ne_zero, two_ne0, pMt H, H0.isc, noPane_ev O _ H0.w R, noHour_ev, noSeer_ev O _ H0.w, in_ev, Bool.not_false, Bool.not_true, bI_f, bI_t, thr0_ev O _ H0, thr1_ev O _ H0, i1_0, i0_0, z01, o01, tH_tH, Bool.false_eq_true, a1, w5, b3, es, gM17 Hv.1, gs, q0, gM1 Hv.1, n30, nL247, nA, ga, ep]
end SaleM
