/-! The reference's image and back -/
def cpN (f g : Nat → Int32) (n : Nat) : Nat → Int32 := fun i => if i < n then f i else g i
theorem cpN_s (f g : Nat → Int32) (n : Nat) : upd (cpN f g n) n (f n) = cpN f g (n + 1) := by
  funext i
  unfold upd cpN
  by_cases z : i = n
  · rw [if_pos z, if_pos (by omega), z]
  · rw [if_neg z]
    by_cases y : i < n
    · rw [if_pos y, if_pos (by omega)]
    · rw [if_neg y, if_neg (by omega)]
theorem cpN_0 (f g : Nat → Int32) : cpN f g 0 = g := rfl
section ImageM
variable {h : mH} {m : Nat → Int32} {W : WD}
theorem Mimage_ev (O : mO) (d : Nat) (H : MS h m W) {I : Nat → Int32} (e68 : h.1[68]? = some (aI 1264 I)) : ev O (d) 153 0 [.ref 66, mJ] [] h = some (.inl none, ((((tH h m 0).1.set 68 (aI 1264 (cpN W I 1264))).set 66 (oM (upd (upd m 0 0) 4 1))), h.2)) := by
  have H0 := H.t 0
  let hI : (Nat → Int32) → mH := fun I => ((tH h m 0).1.set 68 (aI 1264 I), h.2)
  have g68 : (tH h m 0).1[68]? = some (aI 1264 I) := (hne (by decide)).trans e68
  have H1 : ∀ I, MS (hI I) (upd m 0 0) W := fun I => ⟨(hne (by decide)).trans H0.1, (hne (by decide)).trans H0.2⟩
  have k68 : ∀ J, (hI J).1[68]? = some (aI 1264 J) := fun J => hget g68
  have s68 : ∀ J j x, j < 1264 → m_si (hI J) 68 (nI j) x = some (hI (upd J j x)) := fun J j x hj => by
    rw [si_n (k68 J) hj (by decide)]; simp only [hI, List.set_set]
  have key : ∀ k n, n + k = 1264 → ev O (d) 153 7 [.ref 66, .int (nI n)] [] (hI (cpN W I n)) = ev O (d) 153 7 [.ref 66, .int (nI 1264)] [] (hI (cpN W I 1264)) := by
    intro k
    induction k with
    | zero => intro n hn; rw [show n = 1264 by omega]
    | succ k ih =>
      intro n hn
      have c1 : ¬ (1264 : Int32) ≤ nI n := nI_ge (b := 1264) (by omega) (by omega)
      rw [e_153_7]
      simp only [e_153_0, e_153_1, e_153_2, e_153_5, e_153_6, e_153_8, e_153_11, e_153_14, e_153_15, e_153_18, e_153_19, e_153_20, e_153_23, e_153_24, e_153_25, e_153_26, e_153_29, e_153_32, e_153_33, e_153_34, e_153_37, Option.bind_some, Option.bind_none, m_kt, m_kn, Option.toList_some, Option.toList_none, List.nil_append, List.cons_append, List.append_nil, ltn, ite_not, ↓reduceIte, true_or, or_true, nP1, oI_s, oI_n, bI_f, bI_t, i1_0, i0_0, Bool.false_eq_true, not_true_eq_false, not_false_eq_true, c1, gM2 (H1 _).1, gM1 (H1 _).1, (H1 _).w.w (show n < 2101 by omega), s68 _ n _ (show n < 1264 by omega), cpN_s]
      exact ih (n + 1) (by omega)
  have e := key 1264 0 (by omega)
  have h0 : hI (cpN W I 0) = tH h m 0 := by
    rw [cpN_0]
    show ((tH h m 0).1.set 68 (aI 1264 I), h.2) = tH h m 0
    rw [hset g68]
    rfl
  rw [h0, nI_0] at e
  simp only [e_153_0, e_153_1, e_153_2, e_153_5, e_153_6, e_153_8, e_153_11, e_153_14, e_153_15, e_153_18, e_153_19, e_153_20, e_153_23, e_153_24, e_153_25, e_153_26, e_153_29, e_153_32, e_153_33, e_153_34, e_153_37, Option.bind_some, Option.bind_none, m_kt, m_kn, Option.toList_some, Option.toList_none, List.nil_append, List.cons_append, List.append_nil, ltn, ite_not, ↓reduceIte, true_or, or_true, nP1, oI_s, oI_n, bI_f, bI_t, i1_0, i0_0, Bool.false_eq_true, not_true_eq_false, not_false_eq_true, pMt H]
  refine e.trans ?_
  rw [e_153_7]
  simp only [e_153_0, e_153_1, e_153_2, e_153_5, e_153_6, e_153_8, e_153_11, e_153_14, e_153_15, e_153_18, e_153_19, e_153_20, e_153_23, e_153_24, e_153_25, e_153_26, e_153_29, e_153_32, e_153_33, e_153_34, e_153_37, Option.bind_some, Option.bind_none, m_kt, m_kn, Option.toList_some, Option.toList_none, List.nil_append, List.cons_append, List.append_nil, ltn, ite_not, ↓reduceIte, true_or, or_true, nP1, oI_s, oI_n, bI_f, bI_t, i1_0, i0_0, Bool.false_eq_true, not_true_eq_false, not_false_eq_true, (show ((1264 : Int32) ≤ nI 1264) = True by decide), o01, pM4 (H1 _).1]
  rfl
theorem Mback_ev (O : mO) (d : Nat) (H : MS h m W) {I : Nat → Int32} (e68 : h.1[68]? = some (aI 1264 I)) : ev O (d) 154 0 [.ref 66, mJ] [] h = if m 4 = 0 then some (.inl (some (.int (0))), tH h m 0) else some (.inl (some (.int (1))), ((((tH h m 0).1.set 67 (aI 2101 (cpN I W 1264))).set 66 (oM (upd (upd m 0 0) 6 0))), h.2)) := by
  have H0 := H.t 0
  have m4 : upd m 0 0 4 = m 4 := pk_un (by omega)
  let hI : (Nat → Int32) → mH := fun J => ((tH h m 0).1.set 67 (aI 2101 J), h.2)
  have H1 : ∀ J, MS (hI J) (upd m 0 0) J := fun J => ⟨(hne (by decide)).trans H0.1, hget H0.2⟩
  have k68 : ∀ J, (hI J).1[68]? = some (aI 1264 I) := fun J => ((hne (by decide)).trans (hne (by decide))).trans e68
  have s67 : ∀ J j x, j < 2101 → m_si (hI J) 67 (nI j) x = some (hI (upd J j x)) := fun J j x hj => by
    rw [si_n (H1 J).2 hj (by decide)]; simp only [hI, List.set_set]
  have key : ∀ k n, n + k = 1264 → ev O (d) 154 16 [.ref 66, .int (nI n)] [] (hI (cpN I W n)) = ev O (d) 154 16 [.ref 66, .int (nI 1264)] [] (hI (cpN I W 1264)) := by
    intro k
    induction k with
    | zero => intro n hn; rw [show n = 1264 by omega]
    | succ k ih =>
      intro n hn
      have c1 : ¬ (1264 : Int32) ≤ nI n := nI_ge (b := 1264) (by omega) (by omega)
      rw [e_154_16]
      simp only [e_154_0, e_154_1, e_154_2, e_154_5, e_154_6, e_154_9, e_154_12, e_154_13, e_154_14, e_154_15, e_154_17, e_154_20, e_154_23, e_154_24, e_154_27, e_154_28, e_154_29, e_154_32, e_154_33, e_154_34, e_154_35, e_154_38, e_154_41, e_154_42, e_154_43, e_154_46, e_154_47, Option.bind_some, Option.bind_none, m_kt, m_kn, Option.toList_some, Option.toList_none, List.nil_append, List.cons_append, List.append_nil, ltn, ite_not, ↓reduceIte, true_or, or_true, nP1, oI_s, oI_n, bI_f, bI_t, i1_0, i0_0, Bool.false_eq_true, not_true_eq_false, not_false_eq_true, c1, gM2 (H1 _).1, gM1 (H1 _).1, ai_n (k68 _) (show n < 1264 by omega) (by decide), s67 _ n _ (show n < 2101 by omega), cpN_s]
      exact ih (n + 1) (by omega)
  have e := key 1264 0 (by omega)
  have h0 : hI (cpN I W 0) = tH h m 0 := by
    rw [cpN_0]
    show ((tH h m 0).1.set 67 (aI 2101 W), h.2) = tH h m 0
    rw [hset H0.2]
    rfl
  rw [h0, nI_0] at e
  by_cases z : m 4 = 0
  · rw [if_pos z]
    simp only [e_154_0, e_154_1, e_154_2, e_154_5, e_154_6, e_154_9, e_154_12, e_154_13, e_154_14, e_154_15, e_154_17, e_154_20, e_154_23, e_154_24, e_154_27, e_154_28, e_154_29, e_154_32, e_154_33, e_154_34, e_154_35, e_154_38, e_154_41, e_154_42, e_154_43, e_154_46, e_154_47, Option.bind_some, Option.bind_none, m_kt, m_kn, Option.toList_some, Option.toList_none, List.nil_append, List.cons_append, List.append_nil, ltn, ite_not, ↓reduceIte, true_or, or_true, nP1, oI_s, oI_n, bI_f, bI_t, i1_0, i0_0, Bool.false_eq_true, not_true_eq_false, not_false_eq_true, pMt H, gM4 H0.1, m4, z, z01]
  · rw [if_neg z]
    simp only [e_154_0, e_154_1, e_154_2, e_154_5, e_154_6, e_154_9, e_154_12, e_154_13, e_154_14, e_154_15, e_154_17, e_154_20, e_154_23, e_154_24, e_154_27, e_154_28, e_154_29, e_154_32, e_154_33, e_154_34, e_154_35, e_154_38, e_154_41, e_154_42, e_154_43, e_154_46, e_154_47, Option.bind_some, Option.bind_none, m_kt, m_kn, Option.toList_some, Option.toList_none, List.nil_append, List.cons_append, List.append_nil, ltn, ite_not, ↓reduceIte, true_or, or_true, nP1, oI_s, oI_n, bI_f, bI_t, i1_0, i0_0, Bool.false_eq_true, not_true_eq_false, not_false_eq_true, pMt H, gM4 H0.1, m4, z]
    refine e.trans ?_
    rw [e_154_16]
    simp only [e_154_0, e_154_1, e_154_2, e_154_5, e_154_6, e_154_9, e_154_12, e_154_13, e_154_14, e_154_15, e_154_17, e_154_20, e_154_23, e_154_24, e_154_27, e_154_28, e_154_29, e_154_32, e_154_33, e_154_34, e_154_35, e_154_38, e_154_41, e_154_42, e_154_43, e_154_46, e_154_47, Option.bind_some, Option.bind_none, m_kt, m_kn, Option.toList_some, Option.toList_none, List.nil_append, List.cons_append, List.append_nil, ltn, ite_not, ↓reduceIte, true_or, or_true, nP1, oI_s, oI_n, bI_f, bI_t, i1_0, i0_0, Bool.false_eq_true, not_true_eq_false, not_false_eq_true, (show ((1264 : Int32) ≤ nI 1264) = True by decide), o01, pM6 (H1 _).1]
    rfl
end ImageM
