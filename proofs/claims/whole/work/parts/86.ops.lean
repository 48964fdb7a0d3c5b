/-! Tables; the calls that ask of one pane or all -/
theorem tl_0 : ((nI 0).toInt < 0) = False := by decide
theorem tn_0 : ((nI 0).toInt - 0).toNat = 0 := by decide
theorem tl_1 : ((nI 1).toInt < 0) = False := by decide
theorem tn_1 : ((nI 1).toInt - 0).toNat = 1 := by decide
theorem tl_2 : ((nI 2).toInt < 0) = False := by decide
theorem tn_2 : ((nI 2).toInt - 0).toNat = 2 := by decide
theorem tl_3 : ((nI 3).toInt < 0) = False := by decide
theorem tn_3 : ((nI 3).toInt - 0).toNat = 3 := by decide
theorem tl_4 : ((nI 4).toInt < 0) = False := by decide
theorem tn_4 : ((nI 4).toInt - 0).toNat = 4 := by decide
theorem tl_5 : ((nI 5).toInt < 0) = False := by decide
theorem tn_5 : ((nI 5).toInt - 0).toNat = 5 := by decide
theorem tl_6 : ((nI 6).toInt < 0) = False := by decide
theorem tn_6 : ((nI 6).toInt - 0).toNat = 6 := by decide
theorem tl_7 : ((nI 7).toInt < 0) = False := by decide
theorem tn_7 : ((nI 7).toInt - 0).toNat = 7 := by decide
theorem tl_8 : ((nI 8).toInt < 0) = False := by decide
theorem tn_8 : ((nI 8).toInt - 0).toNat = 8 := by decide
theorem tl_9 : ((nI 9).toInt < 0) = False := by decide
theorem tn_9 : ((nI 9).toInt - 0).toNat = 9 := by decide
theorem tl_10 : ((nI 10).toInt < 0) = False := by decide
theorem tn_10 : ((nI 10).toInt - 0).toNat = 10 := by decide
theorem tb_out {α : Type} {y : Int32} {l : List Nat} {df : Nat} {n : Nat} (hn : n < 2 ^ 30) (hl : l.length = n) (h : inB y 0 (nI n - 1) = false) (F : Nat → α) : (if y.toInt < 0 then F df else F (l.getD (y.toInt - 0).toNat df)) = F df := by
  split
  · rfl
  · rename_i q
    rw [inB_f, i_le, ← lt_pred hn, i_le, nI_toInt (show n < 2 ^ 31 by omega)] at h
    have z : (0 : Int32).toInt = 0 := by decide
    rw [z] at h
    rw [List.getD_eq_getElem?_getD, List.getElem?_eq_none (by omega)]
    rfl
theorem upd_s (f : Nat → Int32) (k : Nat) (x : Int32) : upd f k x k = x := pk_us
section Ops1
variable {h : mH} {g : gT} {m : Nat → Int32} {W : WD}
def paneV (W : WD) (x y : Int32) : Int32 := if y = 6 then bea W x.toNatClampNeg else W (7 + 6 * x.toNatClampNeg + y.toNatClampNeg)
theorem Gpane_ev (O : mO) (d : Nat) (G : h.1[0]? = some (oG g)) (H : CA h g.1 W) (R : rng W) (x y : Int32) : ev O (d + 2) 107 0 [.ref 0, .int x, .int y] [] h = if inB x 0 (nI (pN W) - 1) = true then (if inB y 0 6 = true then some (.inl (some (.int (paneV W x y))), h) else some (.inr 2, (h.1, h.2 + 1))) else some (.inr 1, (h.1, h.2 + 1)) := by
  have hN := pN_le R
  cases e1 : inB x 0 (nI (pN W) - 1)
  · simp only [e_107_0, e_107_1, e_107_2, e_107_5, e_107_6, e_107_48, e_107_49, e_107_52, e_107_55, e_107_56, e_107_57, e_107_58, e_107_59, e_107_62, e_107_65, e_107_66, e_107_67, e_107_68, e_107_69, e_107_72, e_107_75, e_107_76, e_107_77, e_107_78, e_107_79, e_107_82, e_107_85, e_107_86, e_107_87, e_107_88, e_107_89, e_107_92, e_107_95, e_107_96, e_107_97, e_107_98, e_107_99, e_107_102, e_107_105, e_107_106, e_107_107, e_107_108, e_107_109, e_107_112, e_107_113, e_107_116, e_107_117, Option.bind_some, Option.bind_none, m_kt, m_kn, Option.toList_some, Option.toList_none, List.nil_append, List.cons_append, List.append_nil, ltn, ite_not, ↓reduceIte, true_or, or_true, iscG G, checkPane_ev O (d + 1) G H R, e1, Bool.false_eq_true]
  · obtain ⟨p, hp, rfl⟩ := inB_ix (by omega) e1
    have hp3 : p < 30 := by omega
    have hc : (nI p).toNatClampNeg = p := nI_clamp (by omega)
    cases e2 : inB y 0 6
    · simp only [e_107_0, e_107_1, e_107_2, e_107_5, e_107_48, e_107_49, e_107_52, e_107_55, e_107_56, e_107_57, e_107_58, e_107_59, e_107_62, e_107_65, e_107_66, e_107_67, e_107_68, e_107_69, e_107_72, e_107_75, e_107_76, e_107_77, e_107_78, e_107_79, e_107_82, e_107_85, e_107_86, e_107_87, e_107_88, e_107_89, e_107_92, e_107_95, e_107_96, e_107_97, e_107_98, e_107_99, e_107_102, e_107_105, e_107_106, e_107_107, e_107_108, e_107_109, e_107_112, e_107_113, e_107_116, e_107_117, Option.bind_some, Option.bind_none, m_kt, m_kn, Option.toList_some, Option.toList_none, List.nil_append, List.cons_append, List.append_nil, ltn, ite_not, ↓reduceIte, true_or, or_true, iscG G, checkPane_ev O (d + 1) G H R, e1, Bool.false_eq_true]
      rw [e_107_6, tb_out (n := 7) (by decide) rfl e2 (fun z => ev O (d + 2) 107 z [.ref 0, .int (nI p), .int y] [] h)]
      simp only [e_107_0, e_107_1, e_107_2, e_107_5, e_107_48, e_107_49, e_107_52, e_107_55, e_107_56, e_107_57, e_107_58, e_107_59, e_107_62, e_107_65, e_107_66, e_107_67, e_107_68, e_107_69, e_107_72, e_107_75, e_107_76, e_107_77, e_107_78, e_107_79, e_107_82, e_107_85, e_107_86, e_107_87, e_107_88, e_107_89, e_107_92, e_107_95, e_107_96, e_107_97, e_107_98, e_107_99, e_107_102, e_107_105, e_107_106, e_107_107, e_107_108, e_107_109, e_107_112, e_107_113, e_107_116, e_107_117]
    · obtain ⟨k, hk, rfl⟩ := inB_ix (n := 7) (by decide) e2
      have hk' : k = 0 ∨ k = 1 ∨ k = 2 ∨ k = 3 ∨ k = 4 ∨ k = 5 ∨ k = 6 := by omega
      unfold paneV
      rw [hc]
      rcases hk' with rfl | rfl | rfl | rfl | rfl | rfl | rfl
      all_goals
        simp only [e_107_0, e_107_1, e_107_2, e_107_5, e_107_6, e_107_48, e_107_49, e_107_52, e_107_55, e_107_56, e_107_57, e_107_58, e_107_59, e_107_62, e_107_65, e_107_66, e_107_67, e_107_68, e_107_69, e_107_72, e_107_75, e_107_76, e_107_77, e_107_78, e_107_79, e_107_82, e_107_85, e_107_86, e_107_87, e_107_88, e_107_89, e_107_92, e_107_95, e_107_96, e_107_97, e_107_98, e_107_99, e_107_102, e_107_105, e_107_106, e_107_107, e_107_108, e_107_109, e_107_112, e_107_113, e_107_116, e_107_117, Option.bind_some, Option.bind_none, m_kt, m_kn, Option.toList_some, Option.toList_none, List.nil_append, List.cons_append, List.append_nil, ltn, ite_not, ↓reduceIte, true_or, or_true, iscG G, checkPane_ev O (d + 1) G H R, e1, tl_0, tn_0, tl_1, tn_1, tl_2, tn_2, tl_3, tn_3, tl_4, tn_4, tl_5, tn_5, tl_6, tn_6, tl_7, tn_7, tl_8, tn_8, tl_9, tn_9, tl_10, tn_10, (show List.getD [48, 58, 68, 78, 88, 98, 108] 0 117 = 48 from rfl), (show List.getD [48, 58, 68, 78, 88, 98, 108] 1 117 = 58 from rfl), (show List.getD [48, 58, 68, 78, 88, 98, 108] 2 117 = 68 from rfl), (show List.getD [48, 58, 68, 78, 88, 98, 108] 3 117 = 78 from rfl), (show List.getD [48, 58, 68, 78, 88, 98, 108] 4 117 = 88 from rfl), (show List.getD [48, 58, 68, 78, 88, 98, 108] 5 117 = 98 from rfl), (show List.getD [48, 58, 68, 78, 88, 98, 108] 6 117 = 108 from rfl), gG0 G, gC6 H, gC7 H, gC8 H, gC9 H, gC10 H, gC11 H, H.isc, H.t0 hp3, H.t1 hp3, H.t2 hp3, H.t3 hp3, H.t4 hp3, H.t5 hp3, bears_ev O d H R hp3]
        rfl
theorem Mpane_ev (O : mO) (d : Nat) (H : MS h m W) (R : rng W) (x y : Int32) : ev O (d + 3) 197 0 [.ref 66, .int x, .int y] [] h = if inB x 0 (nI (pN W) - 1) = true then (if inB y 0 6 = true then some (.inl (some (.int (paneV W x y))), tH h m 0) else some (.inl (some (.int (0))), tH h m 2)) else some (.inl (some (.int (0))), tH h m 1) := by
  have hN := pN_le R
  have H0 := H.t 0
  cases e1 : inB x 0 (nI (pN W) - 1)
  · simp only [e_197_0, e_197_1, e_197_2, e_197_5, e_197_6, e_197_7, e_197_8, e_197_11, e_197_12, e_197_15, e_197_18, e_197_19, e_197_20, e_197_21, e_197_23, e_197_26, e_197_29, e_197_30, e_197_33, e_197_34, e_197_35, e_197_38, e_197_41, e_197_42, e_197_45, e_197_46, e_197_48, e_197_51, e_197_52, e_197_53, e_197_56, e_197_59, e_197_60, e_197_61, e_197_62, e_197_65, Option.bind_some, Option.bind_none, m_kt, m_kn, Option.toList_some, Option.toList_none, List.nil_append, List.cons_append, List.append_nil, ltn, ite_not, ↓reduceIte, true_or, or_true, pMt H, H0.isc, noPane_ev O (d + 1) H0.w R, e1, Bool.not_false, bI_t, thr1_ev O (d + 2) H0, i1_0, tH_tH, Bool.false_eq_true]
  · obtain ⟨p, hp, rfl⟩ := inB_ix (by omega) e1
    have hp3 : p < 30 := by omega
    have hc : (nI p).toNatClampNeg = p := nI_clamp (by omega)
    cases e2 : inB y 0 6
    · simp only [e_197_0, e_197_1, e_197_2, e_197_5, e_197_6, e_197_7, e_197_8, e_197_11, e_197_12, e_197_15, e_197_18, e_197_19, e_197_20, e_197_21, e_197_23, e_197_26, e_197_29, e_197_30, e_197_33, e_197_34, e_197_35, e_197_38, e_197_41, e_197_42, e_197_45, e_197_46, e_197_48, e_197_51, e_197_52, e_197_53, e_197_56, e_197_59, e_197_60, e_197_61, e_197_62, e_197_65, Option.bind_some, Option.bind_none, m_kt, m_kn, Option.toList_some, Option.toList_none, List.nil_append, List.cons_append, List.append_nil, ltn, ite_not, ↓reduceIte, true_or, or_true, pMt H, H0.isc, noPane_ev O (d + 1) H0.w R, in_ev, e1, e2, Bool.not_true, bI_f, thr0_ev O (d + 2) H0, thr1_ev O (d + 2) H0, i1_0, i0_0, tH_tH, Bool.false_eq_true]
    · obtain ⟨k, hk, rfl⟩ := inB_ix (n := 7) (by decide) e2
      have hkc : (nI k).toNatClampNeg = k := nI_clamp (by omega)
      unfold paneV
      rw [hc, hkc]
      by_cases h6 : nI k = 6
      · simp only [e_197_0, e_197_1, e_197_2, e_197_5, e_197_6, e_197_7, e_197_8, e_197_11, e_197_12, e_197_15, e_197_18, e_197_19, e_197_20, e_197_21, e_197_23, e_197_26, e_197_29, e_197_30, e_197_33, e_197_34, e_197_35, e_197_38, e_197_41, e_197_42, e_197_45, e_197_46, e_197_48, e_197_51, e_197_52, e_197_53, e_197_56, e_197_59, e_197_60, e_197_61, e_197_62, e_197_65, Option.bind_some, Option.bind_none, m_kt, m_kn, Option.toList_some, Option.toList_none, List.nil_append, List.cons_append, List.append_nil, ltn, ite_not, ↓reduceIte, true_or, or_true, pMt H, H0.isc, noPane_ev O (d + 1) H0.w R, in_ev, e1, e2, Bool.not_true, bI_f, bI_t, thr0_ev O (d + 2) H0, i1_0, i0_0, mbears_ev O d H0.w hp3, h6, (show inB 6 0 6 = true by decide)]
      · have hk6 : k < 6 := by
          rcases Nat.lt_or_ge k 6 with q | q
          · exact q
          · have : k = 6 := by omega
            subst this
            exact absurd rfl h6
        simp only [e_197_0, e_197_1, e_197_2, e_197_5, e_197_6, e_197_7, e_197_8, e_197_11, e_197_12, e_197_15, e_197_18, e_197_19, e_197_20, e_197_21, e_197_23, e_197_26, e_197_29, e_197_30, e_197_33, e_197_34, e_197_35, e_197_38, e_197_41, e_197_42, e_197_45, e_197_46, e_197_48, e_197_51, e_197_52, e_197_53, e_197_56, e_197_59, e_197_60, e_197_61, e_197_62, e_197_65, Option.bind_some, Option.bind_none, m_kt, m_kn, Option.toList_some, Option.toList_none, List.nil_append, List.cons_append, List.append_nil, ltn, ite_not, ↓reduceIte, true_or, or_true, pMt H, H0.isc, noPane_ev O (d + 1) H0.w R, in_ev, e1, e2, Bool.not_true, bI_f, bI_t, thr0_ev O (d + 2) H0, i1_0, i0_0, of_ev O (d + 2) H0.w hp3 hk6, h6]
end Ops1
