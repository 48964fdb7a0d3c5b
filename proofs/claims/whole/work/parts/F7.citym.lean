/-! The reference reads a text of the city -/
def clW (V : WD) : WD := fun i => if i = 2 then 0 else if 7 ≤ i ∧ i < 427 then (if i < 187 then (if (i - 7) % 6 = 0 then 4 else if (i - 7) % 6 = 1 then 10 else 0) else 0) else V i
theorem szW_cl (V : WD) (w g : Int32) : clW (upd (upd V 0 w) 1 g) = szW V w g := by
  funext i
  unfold clW szW upd
  by_cases h0 : i = 0
  · subst h0; rfl
  by_cases h1 : i = 1
  · subst h1; rfl
  rw [if_neg h0, if_neg h1, if_neg h0, if_neg h1]
def MR (r : Option mR) (h : mH) (m : Nat → Int32) (dp st : Int32) (s : Nat ⊕ (WD × Nat)) : Prop := match s with
  | .inl f => ∃ p' V', r = some (.inl (some (.int (0))), hz h m p' (nI f) dp st V')
  | .inr x => ∃ b', r = some (.inl (some (.int (1))), hz h m (nI x.2) b' dp st x.1)
def MTX (O : mO) : Prop := TX O 50 w_size ∧ TX O 52 w_thick ∧ TX O 54 w_heat ∧ TX O 56 w_cold ∧ TX O 58 w_sand ∧ TX O 60 w_owner ∧ TX O 62 w_lamp ∧ TX O 64 w_cart ∧ TX O 66 w_to ∧ TX O 68 w_felt
section Cleans
variable {h : mH} {m : Nat → Int32} {V : WD}
def c1W (V : WD) (k : Nat) : WD := fun i => if 7 ≤ i ∧ i < 7 + k then 0 else V i
def c2W (V : WD) (k : Nat) : WD := fun i => if 7 ≤ i ∧ i < 7 + 6 * k ∧ (i - 7) % 6 = 0 then 4 else if 7 ≤ i ∧ i < 7 + 6 * k ∧ (i - 7) % 6 = 1 then 10 else V i
theorem hT_id (H : MS h m V) : hT h V = h := by unfold hT; rw [hset H.2]
theorem hT_MS (H : MS h m V) (U : WD) : MS (hT h U) m U := ⟨(hne (by decide)).trans H.1, hget H.2⟩
theorem setsT_ev (O : mO) (d : Nat) (H : MS h m V) {p k : Nat} (hp : p < 30) (hk : k < 6) (x : Int32) : ev O (d) 159 0 [.ref 66, .int (nI p), .int (nI k), .int x] [] h = some (.inl none, hT h (upd V (7 + 6 * p + k) x)) := by
  simp only [e_159_0, e_159_1, e_159_4, e_159_6, e_159_8, e_159_9, e_159_10, e_159_11, e_159_12, e_159_13, e_159_14, e_159_15, Option.bind_some, Option.bind_none, m_kt, m_kn, Option.toList_some, Option.toList_none, List.nil_append, List.cons_append, List.append_nil, ltn, ite_not, ↓reduceIte, true_or, or_true, nP1, oI_s, oI_n, bI_f, bI_t, i1_0, i0_0, Bool.false_eq_true, not_true_eq_false, not_false_eq_true, gM1 H.1, n6, nL7, nA, hT_s H (show 7 + 6 * p + k < 2101 by omega)]
theorem cleans_ev (O : mO) (d : Nat) (H : MS h m V) : ev O (d + 1) 152 0 [.ref 66, mJ] [] h = some (.inl none, hT h (clW V)) := by
  have M1 : ∀ U, MS (hT h U) m U := fun U => hT_MS H U
  have k1 : ∀ n k, k + n = 420 → ev O (d + 1) 152 3 [.ref 66, .int (nI (7 + k))] [] (hT h (c1W V k)) = ev O (d + 1) 152 3 [.ref 66, .int (nI 427)] [] (hT h (c1W V 420)) := by
    intro n
    induction n with
    | zero => intro k hk; rw [show k = 420 by omega]
    | succ n ih =>
      intro k hk
      have c : ¬ (427 : Int32) ≤ nI (7 + k) := nI_ge (b := 427) (by omega) (by omega)
      have e : upd (c1W V k) (7 + k) 0 = c1W V (k + 1) := by
        funext i
        unfold upd c1W
        by_cases z : i = 7 + k
        · rw [if_pos z, if_pos (by omega)]
        · rw [if_neg z]
          by_cases y : 7 ≤ i ∧ i < 7 + k
          · rw [if_pos y, if_pos (by omega)]
          · rw [if_neg y, if_neg (by omega)]
      rw [e_152_3]
      simp only [e_152_0, e_152_2, e_152_4, e_152_7, e_152_10, e_152_11, e_152_14, e_152_15, e_152_16, e_152_17, e_152_20, e_152_23, e_152_24, e_152_25, e_152_26, e_152_28, e_152_31, e_152_32, e_152_33, e_152_34, e_152_35, e_152_38, e_152_39, e_152_40, e_152_41, e_152_43, e_152_46, e_152_49, e_152_52, e_152_53, e_152_56, e_152_57, e_152_58, e_152_59, Option.bind_some, Option.bind_none, m_kt, m_kn, Option.toList_some, Option.toList_none, List.nil_append, List.cons_append, List.append_nil, ltn, ite_not, ↓reduceIte, true_or, or_true, nP1, oI_s, oI_n, bI_f, bI_t, i1_0, i0_0, Bool.false_eq_true, not_true_eq_false, not_false_eq_true, c, gM1 (M1 _).1, hT_s (M1 _) (show 7 + k < 2101 by omega), hT_hT, e]
      exact ih (k + 1) (by omega)
  have k2 : ∀ U n k, k + n = 30 → ev O (d + 1) 152 25 [.ref 66, .int (nI k)] [] (hT h (c2W U k)) = ev O (d + 1) 152 25 [.ref 66, .int (nI 30)] [] (hT h (c2W U 30)) := by
    intro U n
    induction n with
    | zero => intro k hk; rw [show k = 30 by omega]
    | succ n ih =>
      intro k hk
      have c : ¬ (30 : Int32) ≤ nI k := nI_ge (b := 30) (by omega) (by omega)
      have e : upd (upd (c2W U k) (7 + 6 * k + 0) 4) (7 + 6 * k + 1) 10 = c2W U (k + 1) := by
        funext i
        unfold upd c2W
        by_cases z : i = 7 + 6 * k + 1
        · rw [if_pos z, if_neg (by omega), if_pos (by omega)]
        · rw [if_neg z]
          by_cases y : i = 7 + 6 * k + 0
          · rw [if_pos y, if_pos (by omega)]
          · rw [if_neg y]
            by_cases x : 7 ≤ i ∧ i < 7 + 6 * k ∧ (i - 7) % 6 = 0
            · rw [if_pos x, if_pos (by omega)]
            · rw [if_neg x]
              by_cases v : 7 ≤ i ∧ i < 7 + 6 * k ∧ (i - 7) % 6 = 1
              · rw [if_pos v, if_neg (by omega), if_pos (by omega)]
              · rw [if_neg v, if_neg (by omega), if_neg (by omega)]
      have s0 : ∀ U', ev O (d) 159 0 [.ref 66, .int (nI k), .int 0, .int 4] [] (hT h U') = some (.inl none, hT h (upd U' (7 + 6 * k + 0) 4)) := fun U' => by
        have := setsT_ev O d (M1 U') (show k < 30 by omega) (show 0 < 6 by omega) 4
        rw [hT_hT] at this; exact this
      have s1 : ∀ U', ev O (d) 159 0 [.ref 66, .int (nI k), .int 1, .int 10] [] (hT h U') = some (.inl none, hT h (upd U' (7 + 6 * k + 1) 10)) := fun U' => by
        have := setsT_ev O d (M1 U') (show k < 30 by omega) (show 1 < 6 by omega) 10
        rw [hT_hT] at this; exact this
      rw [e_152_25]
      simp only [e_152_0, e_152_2, e_152_3, e_152_4, e_152_7, e_152_10, e_152_11, e_152_14, e_152_15, e_152_16, e_152_17, e_152_20, e_152_23, e_152_24, e_152_26, e_152_28, e_152_31, e_152_32, e_152_33, e_152_34, e_152_35, e_152_38, e_152_39, e_152_40, e_152_41, e_152_43, e_152_46, e_152_49, e_152_52, e_152_53, e_152_56, e_152_57, e_152_58, e_152_59, Option.bind_some, Option.bind_none, m_kt, m_kn, Option.toList_some, Option.toList_none, List.nil_append, List.cons_append, List.append_nil, ltn, ite_not, ↓reduceIte, true_or, or_true, nP1, oI_s, oI_n, bI_f, bI_t, i1_0, i0_0, Bool.false_eq_true, not_true_eq_false, not_false_eq_true, c, (M1 _).isc, s0, s1, e]
      exact ih (k + 1) (by omega)
  have e0 : ev O (d + 1) 152 0 [.ref 66, mJ] [] h = ev O (d + 1) 152 3 [.ref 66, .int (nI (7 + 0))] [] (hT h (c1W V 0)) := by
    have : c1W V 0 = V := by funext i; unfold c1W; rw [if_neg (by omega)]
    rw [this, hT_id H]
    simp only [e_152_0, e_152_2, e_152_4, e_152_7, e_152_10, e_152_11, e_152_14, e_152_15, e_152_16, e_152_17, e_152_20, e_152_23, e_152_24, e_152_25, e_152_26, e_152_28, e_152_31, e_152_32, e_152_33, e_152_34, e_152_35, e_152_38, e_152_39, e_152_40, e_152_41, e_152_43, e_152_46, e_152_49, e_152_52, e_152_53, e_152_56, e_152_57, e_152_58, e_152_59, Option.bind_some, Option.bind_none, m_kt, m_kn, Option.toList_some, Option.toList_none, List.nil_append, List.cons_append, List.append_nil, ltn, ite_not, ↓reduceIte, true_or, or_true, nP1, oI_s, oI_n, bI_f, bI_t, i1_0, i0_0, Bool.false_eq_true, not_true_eq_false, not_false_eq_true]
    rfl
  have e1 : ev O (d + 1) 152 3 [.ref 66, .int (nI 427)] [] (hT h (c1W V 420)) = ev O (d + 1) 152 25 [.ref 66, .int (nI 0)] [] (hT h (c2W (c1W V 420) 0)) := by
    have : c2W (c1W V 420) 0 = c1W V 420 := by funext i; unfold c2W; rw [if_neg (by omega), if_neg (by omega)]
    rw [this, e_152_3]
    simp only [e_152_0, e_152_2, e_152_4, e_152_7, e_152_10, e_152_11, e_152_14, e_152_15, e_152_16, e_152_17, e_152_20, e_152_23, e_152_24, e_152_26, e_152_28, e_152_31, e_152_32, e_152_33, e_152_34, e_152_35, e_152_38, e_152_39, e_152_40, e_152_41, e_152_43, e_152_46, e_152_49, e_152_52, e_152_53, e_152_56, e_152_57, e_152_58, e_152_59, Option.bind_some, Option.bind_none, m_kt, m_kn, Option.toList_some, Option.toList_none, List.nil_append, List.cons_append, List.append_nil, ltn, ite_not, ↓reduceIte, true_or, or_true, nP1, oI_s, oI_n, bI_f, bI_t, i1_0, i0_0, Bool.false_eq_true, not_true_eq_false, not_false_eq_true, (show ((427 : Int32) ≤ nI 427) = True by decide)]
    rfl
  have e2 : upd (c2W (c1W V 420) 30) 2 0 = clW V := by
    funext i
    unfold upd c2W c1W clW
    by_cases z : i = 2
    · rw [if_pos z, if_pos z]
    · rw [if_neg z, if_neg z]
      by_cases y : 7 ≤ i ∧ i < 427
      · rw [if_pos y]
        by_cases x : i < 187
        · rw [if_pos x]
          by_cases v : (i - 7) % 6 = 0
          · rw [if_pos (by omega), if_pos v, if_pos y]
          · rw [if_neg (by omega), if_neg v]
            by_cases u : (i - 7) % 6 = 1
            · rw [if_pos (by omega), if_pos u, if_pos y]
            · rw [if_neg (by omega), if_neg u, if_pos (by omega)]
        · rw [if_neg x, if_neg (by omega), if_neg (by omega), if_pos (by omega)]
      · rw [if_neg y, if_neg (by omega), if_neg (by omega), if_neg (by omega)]
  rw [e0, k1 420 0 (by omega), e1, k2 _ 30 0 (by omega), e_152_25]
  have s2 : ∀ U, m_si (hT h U) 67 2 0 = some (hT h (upd U 2 0)) := fun U => by
    have := hT_s (M1 U) (show 2 < 2101 by omega) 0
    rw [hT_hT] at this; exact this
  simp only [e_152_0, e_152_2, e_152_3, e_152_4, e_152_7, e_152_10, e_152_11, e_152_14, e_152_15, e_152_16, e_152_17, e_152_20, e_152_23, e_152_24, e_152_26, e_152_28, e_152_31, e_152_32, e_152_33, e_152_34, e_152_35, e_152_38, e_152_39, e_152_40, e_152_41, e_152_43, e_152_46, e_152_49, e_152_52, e_152_53, e_152_56, e_152_57, e_152_58, e_152_59, Option.bind_some, Option.bind_none, m_kt, m_kn, Option.toList_some, Option.toList_none, List.nil_append, List.cons_append, List.append_nil, ltn, ite_not, ↓reduceIte, true_or, or_true, nP1, oI_s, oI_n, bI_f, bI_t, i1_0, i0_0, Bool.false_eq_true, not_true_eq_false, not_false_eq_true, (show ((30 : Int32) ≤ nI 30) = True by decide), gM1 (M1 _).1, s2, e2]
end Cleans
section CityM
variable {h : mH} {m : Nat → Int32} {l q : Nat} {B : Nat → Int32} {b dp st : Int32} {V : WD}
theorem zT (U : WD) {p : Int32} : hT (hz h m p b dp st V) U = hz h m p b dp st U := by unfold hT hz; rw [List.set_set]
theorem nm_pos {x : Int32 × Nat} {lo hi : Int32} (e : num B l q lo hi = some x) : (0 ≤ x.1) = True ∧ x.2 ≤ l ∧ q < x.2 := by
  obtain ⟨a1, a2, a3, a4, j, hj, e⟩ := num_some (v := x.1) (p' := x.2) e
  have := sb_ge B l q
  exact ⟨by rw [e]; exact n0le (by omega), a2, by omega⟩
theorem paneTold_ev (O : mO) (d : Nat) (R : RZ h m l B) (hq : q ≤ l) (G : rng V) : (pnS B l V q).elim (fun f => ∃ p', ev O (d + 3) 175 0 [.ref 66, mJ, mJ] [] (hz h m (nI q) b dp st V) = some (.inl (some (.int (-1))), hz h m p' (nI f) dp st V)) (fun x => ∃ b', ev O (d + 3) 175 0 [.ref 66, mJ, mJ] [] (hz h m (nI q) b dp st V) = some (.inl (some (.int (nI x.1))), hz h m (nI x.2) b' dp st V)) := by
  have hw := G.1.1.2
  have hg := G.1.2.1.2
  unfold pnS nmS
  cases e1 : num B l q 0 (nI (wN V) - 1) with
  | none =>
    simp only [Option.elim_none, sbd_l, Sum.elim_inl]
    refine ⟨nI (de' B l (sb B l q)), ?_⟩
    simp only [e_175_0, e_175_1, e_175_2, e_175_3, e_175_6, e_175_7, e_175_8, e_175_11, e_175_12, e_175_13, e_175_16, e_175_17, e_175_20, e_175_21, e_175_22, e_175_23, e_175_26, e_175_27, e_175_28, e_175_29, e_175_30, e_175_33, e_175_34, e_175_35, e_175_38, e_175_39, e_175_42, e_175_43, e_175_46, e_175_47, e_175_48, e_175_49, e_175_50, Option.bind_some, Option.bind_none, m_kt, m_kn, Option.toList_some, Option.toList_none, List.nil_append, List.cons_append, List.append_nil, ltn, ite_not, ↓reduceIte, true_or, or_true, nP1, oI_s, oI_n, bI_f, bI_t, i1_0, i0_0, Bool.false_eq_true, not_true_eq_false, not_false_eq_true, Zisc R, wide_ev O (d + 2) (ZMS R).w, rW0 G, number_ev O d R hq, e1, Option.elim_none, m1_0]
  | some x =>
    obtain ⟨x1, x2, x3⟩ := nm_pos e1
    simp only [Option.elim_some, sbd_r]
    cases e2 : num B l x.2 0 (nI (gN V) - 1) with
    | none =>
      simp only [Option.elim_none, sbd_l, Sum.elim_inl]
      refine ⟨nI (de' B l (sb B l x.2)), ?_⟩
      simp only [e_175_0, e_175_1, e_175_2, e_175_3, e_175_6, e_175_7, e_175_8, e_175_11, e_175_12, e_175_13, e_175_16, e_175_17, e_175_20, e_175_21, e_175_22, e_175_23, e_175_26, e_175_27, e_175_28, e_175_29, e_175_30, e_175_33, e_175_34, e_175_35, e_175_38, e_175_39, e_175_42, e_175_43, e_175_46, e_175_47, e_175_48, e_175_49, e_175_50, Option.bind_some, Option.bind_none, m_kt, m_kn, Option.toList_some, Option.toList_none, List.nil_append, List.cons_append, List.append_nil, ltn, ite_not, ↓reduceIte, true_or, or_true, nP1, oI_s, oI_n, bI_f, bI_t, i1_0, i0_0, Bool.false_eq_true, not_true_eq_false, not_false_eq_true, Zisc R, wide_ev O (d + 2) (ZMS R).w, rW0 G, number_ev O d R hq, e1, Option.elim_some, x1, gz1 R, (ZMS R).w.w1, rW1 G, number_ev O d R x2, e2, Option.elim_none, m1_0]
    | some y =>
      obtain ⟨y1, y2, y3⟩ := nm_pos e2
      have q1 := nmS_ix (p := q) (x := x) (n := wN V) (by omega) (by unfold nmS; rw [e1]; rfl)
      have q2 := nmS_ix (p := x.2) (x := y) (n := gN V) (by omega) (by unfold nmS; rw [e2]; rfl)
      have ee : nI (wN V) * y.1 + x.1 = nI (wN V * y.1.toNatClampNeg + x.1.toNatClampNeg) := by
        rw [← nA, ← pk_mul, ← q1.2.2.1, ← q2.2.2.1]
      simp only [Option.elim_some, sbd_r, Sum.elim_inr]
      refine ⟨nI (sb B l x.2), ?_⟩
      simp only [e_175_0, e_175_1, e_175_2, e_175_3, e_175_6, e_175_7, e_175_8, e_175_11, e_175_12, e_175_13, e_175_16, e_175_17, e_175_20, e_175_21, e_175_22, e_175_23, e_175_26, e_175_27, e_175_28, e_175_29, e_175_30, e_175_33, e_175_34, e_175_35, e_175_38, e_175_39, e_175_42, e_175_43, e_175_46, e_175_47, e_175_48, e_175_49, e_175_50, Option.bind_some, Option.bind_none, m_kt, m_kn, Option.toList_some, Option.toList_none, List.nil_append, List.cons_append, List.append_nil, ltn, ite_not, ↓reduceIte, true_or, or_true, nP1, oI_s, oI_n, bI_f, bI_t, i1_0, i0_0, Bool.false_eq_true, not_true_eq_false, not_false_eq_true, Zisc R, wide_ev O (d + 2) (ZMS R).w, rW0 G, number_ev O d R hq, e1, Option.elim_some, x1, gz1 R, (ZMS R).w.w1, rW1 G, number_ev O d R x2, e2, y1, ee]
theorem readPaneM_ev (O : mO) (d : Nat) (R : RZ h m l B) (hq : q ≤ l) (G : rng V) {k : Nat} (hk : k < 6) (lo hi by' : Int32) : MR (ev O (d + 4) 176 0 [.ref 66, .int (nI k), .int lo, .int hi, .int by', mJ, mJ] [] (hz h m (nI q) b dp st V)) h m dp st (prS B l V k lo hi by' q) := by
  have rp := paneTold_ev (b := b) (dp := dp) (st := st) O d R hq G
  unfold prS
  cases e1 : pnS B l V q with
  | inl f =>
    rw [e1] at rp
    obtain ⟨p', rp⟩ := rp
    refine ⟨p', V, ?_⟩
    simp only [e_176_0, e_176_1, e_176_4, e_176_6, e_176_8, e_176_11, e_176_12, e_176_15, e_176_16, e_176_17, e_176_18, e_176_21, e_176_23, e_176_25, e_176_28, e_176_29, e_176_31, e_176_32, e_176_34, e_176_36, e_176_37, e_176_40, e_176_42, e_176_45, e_176_46, e_176_49, e_176_50, Option.bind_some, Option.bind_none, m_kt, m_kn, Option.toList_some, Option.toList_none, List.nil_append, List.cons_append, List.append_nil, ltn, ite_not, ↓reduceIte, true_or, or_true, nP1, oI_s, oI_n, bI_f, bI_t, i1_0, i0_0, Bool.false_eq_true, not_true_eq_false, not_false_eq_true, Zisc R, rp, m1_0, z01]
  | inr x =>
    rw [e1] at rp
    obtain ⟨b1, rp⟩ := rp
    obtain ⟨x2, x3, x4⟩ := pnS_ok G e1
    have hN := pN_le G
    have n1 := n0le (n := x.1) (by omega)
    unfold nmS
    simp only [sbd_r]
    cases e2 : num B l x.2 lo hi with
    | none =>
      refine ⟨nI (de' B l (sb B l x.2)), V, ?_⟩
      simp only [e_176_0, e_176_1, e_176_4, e_176_6, e_176_8, e_176_11, e_176_12, e_176_15, e_176_16, e_176_17, e_176_18, e_176_21, e_176_23, e_176_25, e_176_28, e_176_29, e_176_31, e_176_32, e_176_34, e_176_36, e_176_37, e_176_40, e_176_42, e_176_45, e_176_46, e_176_49, e_176_50, Option.bind_some, Option.bind_none, m_kt, m_kn, Option.toList_some, Option.toList_none, List.nil_append, List.cons_append, List.append_nil, ltn, ite_not, ↓reduceIte, true_or, or_true, nP1, oI_s, oI_n, bI_f, bI_t, i1_0, i0_0, Bool.false_eq_true, not_true_eq_false, not_false_eq_true, Zisc R, rp, n1, number_ev O (d + 1) R x3, e2, Option.elim_none, m1_0, z01]
    | some y =>
      obtain ⟨y1, y2, y3⟩ := nm_pos e2
      simp only [Option.elim_some, sbd_r]
      refine ⟨nI (sb B l x.2), ?_⟩
      simp only [e_176_0, e_176_1, e_176_4, e_176_6, e_176_8, e_176_11, e_176_12, e_176_15, e_176_16, e_176_17, e_176_18, e_176_21, e_176_23, e_176_25, e_176_28, e_176_29, e_176_31, e_176_32, e_176_34, e_176_36, e_176_37, e_176_40, e_176_42, e_176_45, e_176_46, e_176_49, e_176_50, Option.bind_some, Option.bind_none, m_kt, m_kn, Option.toList_some, Option.toList_none, List.nil_append, List.cons_append, List.append_nil, ltn, ite_not, ↓reduceIte, true_or, or_true, nP1, oI_s, oI_n, bI_f, bI_t, i1_0, i0_0, Bool.false_eq_true, not_true_eq_false, not_false_eq_true, Zisc R, rp, n1, number_ev O (d + 1) R x3, e2, Option.elim_some, y1, setsT_ev O (d + 3) (ZMS R) (show x.1 < 30 by omega) hk, zT, o01]
theorem readSizeM_ev (O : mO) (d : Nat) (R : RZ h m l B) (hq : q ≤ l) : MR (ev O (d + 3) 177 0 [.ref 66, mJ, mJ] [] (hz h m (nI q) b dp st V)) h m dp st (szS B l V q) := by
  have s0 : ∀ {p b : Int32} {V : WD} x, m_si (hz h m p b dp st V) 67 0 x = some (hz h m p b dp st (upd V 0 x)) := fun x => sz67 R (i := 0) (by omega) x
  have s1 : ∀ {p b : Int32} {V : WD} x, m_si (hz h m p b dp st V) 67 1 x = some (hz h m p b dp st (upd V 1 x)) := fun x => sz67 R (i := 1) (by omega) x
  unfold szS nmS
  cases e1 : num B l q 1 6 with
  | none =>
    refine ⟨nI (de' B l (sb B l q)), V, ?_⟩
    simp only [e_177_0, e_177_1, e_177_2, e_177_4, e_177_7, e_177_8, e_177_9, e_177_12, e_177_13, e_177_16, e_177_17, e_177_18, e_177_19, e_177_22, e_177_23, e_177_24, e_177_27, e_177_28, e_177_29, e_177_30, e_177_33, e_177_34, e_177_35, e_177_36, e_177_37, e_177_40, e_177_41, e_177_42, e_177_43, e_177_44, e_177_47, e_177_48, Option.bind_some, Option.bind_none, m_kt, m_kn, Option.toList_some, Option.toList_none, List.nil_append, List.cons_append, List.append_nil, ltn, ite_not, ↓reduceIte, true_or, or_true, nP1, oI_s, oI_n, bI_f, bI_t, i1_0, i0_0, Bool.false_eq_true, not_true_eq_false, not_false_eq_true, Zisc R, number_ev O d R hq, e1, Option.elim_none, m1_0, z01]
  | some x =>
    obtain ⟨x1, x2, x3⟩ := nm_pos e1
    simp only [Option.elim_some, sbd_r]
    cases e2 : num B l x.2 1 5 with
    | none =>
      refine ⟨nI (de' B l (sb B l x.2)), V, ?_⟩
      simp only [e_177_0, e_177_1, e_177_2, e_177_4, e_177_7, e_177_8, e_177_9, e_177_12, e_177_13, e_177_16, e_177_17, e_177_18, e_177_19, e_177_22, e_177_23, e_177_24, e_177_27, e_177_28, e_177_29, e_177_30, e_177_33, e_177_34, e_177_35, e_177_36, e_177_37, e_177_40, e_177_41, e_177_42, e_177_43, e_177_44, e_177_47, e_177_48, Option.bind_some, Option.bind_none, m_kt, m_kn, Option.toList_some, Option.toList_none, List.nil_append, List.cons_append, List.append_nil, ltn, ite_not, ↓reduceIte, true_or, or_true, nP1, oI_s, oI_n, bI_f, bI_t, i1_0, i0_0, Bool.false_eq_true, not_true_eq_false, not_false_eq_true, Zisc R, number_ev O d R hq, e1, Option.elim_some, x1, number_ev O d R x2, e2, Option.elim_none, m1_0, z01]
    | some y =>
      obtain ⟨y1, y2, y3⟩ := nm_pos e2
      simp only [Option.elim_some, sbd_r]
      refine ⟨nI (sb B l x.2), ?_⟩
      simp only [e_177_0, e_177_1, e_177_2, e_177_4, e_177_7, e_177_8, e_177_9, e_177_12, e_177_13, e_177_16, e_177_17, e_177_18, e_177_19, e_177_22, e_177_23, e_177_24, e_177_27, e_177_28, e_177_29, e_177_30, e_177_33, e_177_34, e_177_35, e_177_36, e_177_37, e_177_40, e_177_41, e_177_42, e_177_43, e_177_44, e_177_47, e_177_48, Option.bind_some, Option.bind_none, m_kt, m_kn, Option.toList_some, Option.toList_none, List.nil_append, List.cons_append, List.append_nil, ltn, ite_not, ↓reduceIte, true_or, or_true, nP1, oI_s, oI_n, bI_f, bI_t, i1_0, i0_0, Bool.false_eq_true, not_true_eq_false, not_false_eq_true, Zisc R, number_ev O d R hq, e1, Option.elim_some, x1, number_ev O d R x2, e2, y1, gz1 R, s0, s1, cleans_ev O (d + 1) (ZMS R), zT, szW_cl, o01]
end CityM
