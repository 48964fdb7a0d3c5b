/-! The class reads all lines of the law; its call shame -/
def LY (r : Option mR) (h : mH) (a l i u : Nat) (K F E D : Nat → Int32) (s : Nat ⊕ List LN) : Prop := match s with
  | .inl f => ∃ p' t' n' u' K' F' E' D', r = some (.inl (some (.int (0))), hLw (hK h a K' F' E') a l p' t' (nI f) n' u' D')
  | .inr L => ∃ p' t' K' F' E' D', r = some (.inl (some (.int (1))), hLw (hK h a K' F' E') a l p' t' (-1) (nI (i + L.length)) (u + tot L) D') ∧ LnC K' F' E' D' i u L ∧ (∀ j, j < i → K' j = K j ∧ F' j = F j ∧ E' j = E j) ∧ ∀ j, j < u → D' j = D j
section ReadL
variable {h : mH} {a l p u : Nat} {t w n : Int32} {B D K F E : Nat → Int32}
theorem LtE (O : mO) (d : Nat) (Z : LZ h a l B) (hp' : p ≤ l) : ev O (d + 1) 80 0 [.ref 49] [] (hLw h a l p t w n u D) = some (.inl (some (.int (bI (decide (sb B l p = l))))), hLw h a l (sb B l p) t w n u D) := by
  rw [isEnd_ev O d (L49 Z) (L50 Z) Z.2.2.2.2.1 hp', hp_hLw Z]
theorem pn0 (Z : LZ h a l B) (x : Int32) : m_pf (hLw h a l p t w n u D) a 2 0 (.int x) = some (hLw h a l p t w x u D) := by
  have ha := Z.2.2.2.2.2
  rw [pL0 (La Z)]
  unfold hLw
  simp only
  rw [List.set_comm _ _ (show a + 4 ≠ a by omega), List.set_set]
theorem pn5 (Z : LZ h a l B) (x : Nat) : m_pf (hLw h a l p t w n u D) a 2 5 (.int (nI x)) = some (hLw h a l p t w n x D) := by
  have ha := Z.2.2.2.2.2
  rw [pL5 (La Z)]
  unfold hLw
  simp only
  rw [List.set_comm _ _ (show a + 4 ≠ a by omega), List.set_set]
theorem lawRead_run (O : mO) (d : Nat) (X : LTX O) (Z : KZ h a l B) : ∀ (k i : Nat) {p u : Nat} {t : Int32} {K F E D : Nat → Int32}, i + k = 12 → p ≤ l → u ≤ p → LY (ev O (d + 22) 51 21 [.ref a, .ref 49, .int (nI i)] [] (hLw (hK h a K F E) a l p t (-1) (nI i) u D)) h a l i u K F E D (lsS B l k p) := by
  have Y := fun K F E => hK_LZ (K := K) (F := F) (E := E) Z
  intro k
  induction k with
  | zero =>
    intro i p u t K F E D hi hpl hu
    have c1 : (12 : Int32) ≤ nI i := nI_le (a := 12) (by omega) (by omega)
    refine ⟨sb B l p, t, nI i, u, K, F, E, D, ?_⟩
    rw [e_51_21]
    simp only [e_51_0, e_51_1, e_51_2, e_51_5, e_51_6, e_51_7, e_51_10, e_51_11, e_51_14, e_51_17, e_51_18, e_51_19, e_51_20, e_51_22, e_51_24, e_51_27, e_51_28, e_51_29, e_51_30, e_51_33, e_51_36, e_51_37, e_51_38, e_51_39, e_51_40, e_51_43, e_51_44, e_51_45, e_51_48, e_51_49, e_51_52, e_51_55, e_51_56, e_51_57, e_51_58, e_51_60, e_51_63, e_51_66, e_51_67, e_51_70, e_51_71, e_51_74, e_51_77, e_51_78, e_51_81, Option.bind_some, Option.bind_none, m_kt, m_kn, Option.toList_some, Option.toList_none, List.nil_append, List.cons_append, List.append_nil, ltn, ite_not, ↓reduceIte, true_or, or_true, nP1, oI_s, oI_n, bI_f, bI_t, i1_0, i0_0, Bool.false_eq_true, not_true_eq_false, not_false_eq_true, c1, LtI (Y _ _ _), LrN O (d + 20) (Y _ _ _) hpl, z01]
  | succ k ih =>
    intro i p u t K F E D hi hpl hu
    have c1 : ¬ (12 : Int32) ≤ nI i := nI_ge (b := 12) (by omega) (by omega)
    have rl := lawLine_ev (t := t) (n := nI i) (K := K) (F := F) (E := E) (D := D) O d X Z (i := i) (by omega) hpl hu
    unfold lsS
    cases e : lnS B l p with
    | inl f =>
      rw [e] at rl
      obtain ⟨p', t', u', K', F', E', D', rl⟩ := rl
      refine ⟨p', t', nI i, u', K', F', E', D', ?_⟩
      rw [e_51_21]
      simp only [e_51_0, e_51_1, e_51_2, e_51_5, e_51_6, e_51_7, e_51_10, e_51_11, e_51_14, e_51_17, e_51_18, e_51_19, e_51_20, e_51_22, e_51_24, e_51_27, e_51_28, e_51_29, e_51_30, e_51_33, e_51_36, e_51_37, e_51_38, e_51_39, e_51_40, e_51_43, e_51_44, e_51_45, e_51_48, e_51_49, e_51_52, e_51_55, e_51_56, e_51_57, e_51_58, e_51_60, e_51_63, e_51_66, e_51_67, e_51_70, e_51_71, e_51_74, e_51_77, e_51_78, e_51_81, Option.bind_some, Option.bind_none, m_kt, m_kn, Option.toList_some, Option.toList_none, List.nil_append, List.cons_append, List.append_nil, ltn, ite_not, ↓reduceIte, true_or, or_true, nP1, oI_s, oI_n, bI_f, bI_t, i1_0, i0_0, Bool.false_eq_true, not_true_eq_false, not_false_eq_true, c1, LaI (Y _ _ _), rl, z01]
    | inr x =>
      rw [e] at rl
      obtain ⟨t1, K1, F1, E1, D1, rl, q1, q2, q3, q4⟩ := rl
      obtain ⟨x1, x2, x3⟩ := lnS_ok hpl e
      have s2 := sb_le (B := B) x3
      have s3 := sb_ge B l x.2
      simp only [sbd_r]
      by_cases z : sb B l x.2 = l
      · rw [if_pos z]
        refine ⟨sb B l x.2, t1, K1, F1, E1, D1, ?_, ⟨q1, q2, fun j hj => by rw [q3, wrC_at _ _ _ hj], trivial⟩, q4, fun j hj => by rw [q3, wrC_lo _ _ _ hj]⟩
        rw [e_51_21]
        simp only [e_51_0, e_51_1, e_51_2, e_51_5, e_51_6, e_51_7, e_51_10, e_51_11, e_51_14, e_51_17, e_51_18, e_51_19, e_51_20, e_51_22, e_51_24, e_51_27, e_51_28, e_51_29, e_51_30, e_51_33, e_51_36, e_51_37, e_51_38, e_51_39, e_51_40, e_51_43, e_51_44, e_51_45, e_51_48, e_51_49, e_51_52, e_51_55, e_51_56, e_51_57, e_51_58, e_51_60, e_51_63, e_51_66, e_51_67, e_51_70, e_51_71, e_51_74, e_51_77, e_51_78, e_51_81, Option.bind_some, Option.bind_none, m_kt, m_kn, Option.toList_some, Option.toList_none, List.nil_append, List.cons_append, List.append_nil, ltn, ite_not, ↓reduceIte, true_or, or_true, nP1, oI_s, oI_n, bI_f, bI_t, i1_0, i0_0, Bool.false_eq_true, not_true_eq_false, not_false_eq_true, c1, LaI (Y _ _ _), rl, cat_ref, gL0 (La (Y _ _ _)), pn0 (Y _ _ _), LtI (Y _ _ _), LtE O (d + 20) (Y _ _ _) x3, z, decide_true, o01]
        rfl
      · rw [if_neg z]
        cases y : sg B l x.2 59
        · simp only [Bool.false_eq_true, ↓reduceIte]
          have y' : sg B l (sb B l x.2) 59 = false := by unfold sg at *; rw [sb_sb]; exact y
          refine ⟨sb B l x.2, t1, nI (i + 1), u + x.1.2.length, K1, F1, E1, D1, ?_⟩
          rw [e_51_21]
          simp only [e_51_0, e_51_1, e_51_2, e_51_5, e_51_6, e_51_7, e_51_10, e_51_11, e_51_14, e_51_17, e_51_18, e_51_19, e_51_20, e_51_22, e_51_24, e_51_27, e_51_28, e_51_29, e_51_30, e_51_33, e_51_36, e_51_37, e_51_38, e_51_39, e_51_40, e_51_43, e_51_44, e_51_45, e_51_48, e_51_49, e_51_52, e_51_55, e_51_56, e_51_57, e_51_58, e_51_60, e_51_63, e_51_66, e_51_67, e_51_70, e_51_71, e_51_74, e_51_77, e_51_78, e_51_81, Option.bind_some, Option.bind_none, m_kt, m_kn, Option.toList_some, Option.toList_none, List.nil_append, List.cons_append, List.append_nil, ltn, ite_not, ↓reduceIte, true_or, or_true, nP1, oI_s, oI_n, bI_f, bI_t, i1_0, i0_0, Bool.false_eq_true, not_true_eq_false, not_false_eq_true, c1, LaI (Y _ _ _), rl, cat_ref, gL0 (La (Y _ _ _)), pn0 (Y _ _ _), LtI (Y _ _ _), LtE O (d + 20) (Y _ _ _) x3, z, decide_false, LtS O (d + 20) (Y _ _ _) s2, y', sb_sb, LrN O (d + 20) (Y _ _ _) s2, z01]
        · simp only [↓reduceIte]
          have y' : sg B l (sb B l x.2) 59 = true := by unfold sg at *; rw [sb_sb]; exact y
          have r := ih (i + 1) (p := sb B l x.2 + 1) (u := u + x.1.2.length) (t := nI (sb B l x.2)) (K := K1) (F := F1) (E := E1) (D := D1) (by omega) (by omega) (by omega)
          have e0 : ev O (d + 22) 51 21 [.ref a, .ref 49, .int (nI i)] [] (hLw (hK h a K F E) a l p t (-1) (nI i) u D) = ev O (d + 22) 51 21 [.ref a, .ref 49, .int (nI (i + 1))] [] (hLw (hK h a K1 F1 E1) a l (sb B l x.2 + 1) (nI (sb B l x.2)) (-1) (nI (i + 1)) (u + x.1.2.length) D1) := by
            rw [e_51_21]
            simp only [e_51_0, e_51_1, e_51_2, e_51_5, e_51_6, e_51_7, e_51_10, e_51_11, e_51_14, e_51_17, e_51_18, e_51_19, e_51_20, e_51_22, e_51_24, e_51_27, e_51_28, e_51_29, e_51_30, e_51_33, e_51_36, e_51_37, e_51_38, e_51_39, e_51_40, e_51_43, e_51_44, e_51_45, e_51_48, e_51_49, e_51_52, e_51_55, e_51_56, e_51_57, e_51_58, e_51_60, e_51_63, e_51_66, e_51_67, e_51_70, e_51_71, e_51_74, e_51_77, e_51_78, e_51_81, Option.bind_some, Option.bind_none, m_kt, m_kn, Option.toList_some, Option.toList_none, List.nil_append, List.cons_append, List.append_nil, ltn, ite_not, ↓reduceIte, true_or, or_true, nP1, oI_s, oI_n, bI_f, bI_t, i1_0, i0_0, Bool.false_eq_true, not_true_eq_false, not_false_eq_true, c1, LaI (Y _ _ _), rl, cat_ref, gL0 (La (Y _ _ _)), pn0 (Y _ _ _), LtI (Y _ _ _), LtE O (d + 20) (Y _ _ _) x3, z, decide_false, LtS O (d + 20) (Y _ _ _) s2, y', sb_sb]
          rw [e0]
          cases e2 : lsS B l k (sb B l x.2 + 1) with
          | inl f =>
            rw [e2] at r
            exact r
          | inr L =>
            rw [e2] at r
            obtain ⟨p', t', K', F', E', D', r1, r2, r3, r4⟩ := r
            have b := r3 i (by omega)
            refine ⟨p', t', K', F', E', D', ?_, ⟨?_, ?_, fun j hj => ?_, r2⟩, fun j hj => ?_, fun j hj => ?_⟩
            · rw [r1]
              simp only [List.length_cons, tot]
              rw [show i + 1 + L.length = i + (L.length + 1) by omega, Nat.add_assoc]
            · rw [b.1, b.2.1]; exact q1
            · rw [b.2.2]; exact q2
            · rw [r4 _ (by omega), q3, wrC_at _ _ _ hj]
            · obtain ⟨b1, b2, b3⟩ := r3 j (by omega)
              obtain ⟨c1, c2, c3⟩ := q4 j hj
              exact ⟨b1.trans c1, b2.trans c2, b3.trans c3⟩
            · rw [r4 j (by omega), q3, wrC_lo _ _ _ hj]
theorem hLw_id {us : Int32} (e49 : h.1[49]? = some (oT (nI l) (nI p) t w)) (ea : h.1[a]? = some (oL a n us)) (hu : us = nI u) (e4 : h.1[a + 4]? = some (aI 400 D)) : hLw h a l p t w n u D = h := by
  subst hu
  unfold hLw
  rw [hset e49, hset ea, hset e4]
theorem hK_id (e1 : h.1[a + 1]? = some (aI 12 K)) (e2 : h.1[a + 2]? = some (aI 12 F)) (e3 : h.1[a + 3]? = some (aI 12 E)) : hK h a K F E = h := by
  unfold hK
  rw [hset e1, hset e2, hset e3]
/-- a law is read into -/
theorem lawRead_ev (O : mO) (d : Nat) (X : LTX O) (hl : l ≤ 400) (ha : a = 28 ∨ a = 35) (e49 : h.1[49]? = some (oT (nI l) 0 t (-1))) (e50 : h.1[50]? = some (aB 400 B)) (L : LF h a) : ∃ K F E D, KZ h a l B ∧ LY (ev O (d + 22) 51 0 [.ref a, .ref 49, mJ] [] h) h a l 0 0 K F E D (txS B l) := by
  obtain ⟨n, us, K, F, E, D, l0, l1, l2, l3, l4⟩ := L
  have Z : KZ h a l B := ⟨⟨⟨_, e49⟩, ⟨_, l0⟩, ⟨_, l4⟩, e50, hl, ha⟩, ⟨_, l1⟩, ⟨_, l2⟩, ⟨_, l3⟩⟩
  have Y := hK_LZ (K := K) (F := F) (E := E) Z
  refine ⟨K, F, E, D, Z, ?_⟩
  let h1 : mH := (h.1.set a (oL a 0 us), h.2)
  have p1 : m_pf h a 2 0 (.int 0) = some h1 := pL0 l0 0
  have k0 : h1.1[a]? = some (oL a 0 us) := hget l0
  have p2 : m_pf h1 a 2 5 (.int 0) = some (hLw (hK h a K F E) a l 0 t (-1) 0 0 D) := by
    rw [pL5 k0, hK_id l1 l2 l3]
    show some ((((h.1.set a (oL a 0 us)).set a (oL a 0 0)), h.2) : mH) = some (((h.1.set 49 (oT (nI l) 0 t (-1))).set a (oL a 0 0)).set (a + 4) (aI 400 D), h.2)
    rw [List.set_set, hset e49, List.set_comm _ _ (show a ≠ a + 4 by omega), hset l4]
  unfold txS
  by_cases z : sb B l 0 = l
  · rw [if_pos z]
    refine ⟨sb B l 0, t, K, F, E, D, ?_, trivial, fun j hj => ⟨rfl, rfl, rfl⟩, fun j hj => rfl⟩
    simp only [e_51_0, e_51_1, e_51_2, e_51_5, e_51_6, e_51_7, e_51_10, e_51_11, e_51_14, e_51_17, e_51_18, e_51_19, e_51_20, e_51_22, e_51_24, e_51_27, e_51_28, e_51_29, e_51_30, e_51_33, e_51_36, e_51_37, e_51_38, e_51_39, e_51_40, e_51_43, e_51_44, e_51_45, e_51_48, e_51_49, e_51_52, e_51_55, e_51_56, e_51_57, e_51_58, e_51_60, e_51_63, e_51_66, e_51_67, e_51_70, e_51_71, e_51_74, e_51_77, e_51_78, e_51_81, Option.bind_some, Option.bind_none, m_kt, m_kn, Option.toList_some, Option.toList_none, List.nil_append, List.cons_append, List.append_nil, ltn, ite_not, ↓reduceIte, true_or, or_true, nP1, oI_s, oI_n, bI_f, bI_t, i1_0, i0_0, Bool.false_eq_true, not_true_eq_false, not_false_eq_true, p1, p2, LtI Y, LtE O (d + 20) Y (Nat.zero_le _), z, decide_true, o01]
    rfl
  · rw [if_neg z]
    have r := lawRead_run (t := t) (K := K) (F := F) (E := E) (D := D) O d X Z 12 0 (p := sb B l 0) (u := 0) (by omega) (sb_le (Nat.zero_le _)) (Nat.zero_le _)
    simp only [e_51_0, e_51_1, e_51_2, e_51_5, e_51_6, e_51_7, e_51_10, e_51_11, e_51_14, e_51_17, e_51_18, e_51_19, e_51_20, e_51_22, e_51_24, e_51_27, e_51_28, e_51_29, e_51_30, e_51_33, e_51_36, e_51_37, e_51_38, e_51_39, e_51_40, e_51_43, e_51_44, e_51_45, e_51_48, e_51_49, e_51_52, e_51_55, e_51_56, e_51_57, e_51_58, e_51_60, e_51_63, e_51_66, e_51_67, e_51_70, e_51_71, e_51_74, e_51_77, e_51_78, e_51_81, Option.bind_some, Option.bind_none, m_kt, m_kn, Option.toList_some, Option.toList_none, List.nil_append, List.cons_append, List.append_nil, ltn, ite_not, ↓reduceIte, true_or, or_true, nP1, oI_s, oI_n, bI_f, bI_t, i1_0, i0_0, Bool.false_eq_true, not_true_eq_false, not_false_eq_true, p1, p2, LtI Y, LtE O (d + 20) Y (Nat.zero_le _), z, decide_false]
    exact r
/-- the class's call shame -/
def SGc (a b : Nat) : Prop := b = 0 ∨ b = 49 ∨ LB a b
def STg (r : Option mR) (s : Nat ⊕ List LN) (h : mH) (g : gT) : Prop := match s with
  | .inl f => ∃ h', r = some (.inr 0, (h'.1, h'.2 + 1)) ∧ h'.1[0]? = some (oG (g.1, g.2.1, g.2.2.1, g.2.2.2.1, nI f, g.2.2.2.2.2)) ∧ (∃ p t w, h'.1[49]? = some (oT 0 p t w)) ∧ LF h' g.2.2.2.1 ∧ out (SGc g.2.2.2.1) h h'
  | .inr L => ∃ h' K F E D us, r = some (.inl (some (.int (nI L.length))), h') ∧ h'.1[0]? = some (oG (g.1, g.2.1, g.2.2.2.1, g.2.2.1, -1, g.2.2.2.2.2)) ∧ (∃ p t w, h'.1[49]? = some (oT 0 p t w)) ∧ LSh h' g.2.2.2.1 (nI L.length) us K F E D ∧ LnC K F E D 0 0 L ∧ out (SGc g.2.2.2.1) h h'
theorem Gshame_ev (O : mO) (d : Nat) (X : LTX O) {g : gT} (G : h.1[0]? = some (oG g)) (gg : (g.2.2.1 = 28 ∧ g.2.2.2.1 = 35) ∨ (g.2.2.1 = 35 ∧ g.2.2.2.1 = 28)) {p t w : Int32} (e49 : h.1[49]? = some (oT (nI l) p t w)) (hl : l ≤ 400) (e50 : h.1[50]? = some (aB 400 B)) (L : LF h g.2.2.2.1) : STg (ev O (d + 23) 105 0 [.ref 0, mJ, mJ] [] h) (txS B l) h g := by
  let h1 : mH := (h.1.set 49 (oT (nI l) 0 t (-1)), h.2)
  have o1 : out (fun b => b = 49) h h1 := out.st h _ rfl
  have G1 : h1.1[0]? = some (oG g) := (hne (by decide)).trans G
  have K1 : h1.1[49]? = some (oT (nI l) 0 t (-1)) := hget e49
  have E1 : h1.1[50]? = some (aB 400 B) := (hne (by decide)).trans e50
  have L1 : LF h1 g.2.2.2.1 := LF_out L o1 (fun b q z => by unfold LB at z; omega)
  have e1 : ev O (d + 22) 78 0 [.ref 49] [] h = some (.inl none, h1) := open_ev O (d + 22) e49
  obtain ⟨K0, F0, E0, D0, Z, rd⟩ := lawRead_ev O d X hl (show g.2.2.2.1 = 28 ∨ g.2.2.2.1 = 35 by omega) K1 E1 L1
  have Y := fun K F E => hK_LZ (K := K) (F := F) (E := E) Z
  have oL1 : ∀ {p' : Nat} {t' w' n' : Int32} {u' : Nat} {K' F' E' D' : Nat → Int32}, out (SGc g.2.2.2.1) h1 (hLw (hK h1 g.2.2.2.1 K' F' E') g.2.2.2.1 l p' t' w' n' u' D') := fun {p' t' w' n' u' K' F' E' D'} => by
    refine ⟨rfl, by unfold hLw hK; simp, fun b hb => ?_⟩
    unfold SGc LB at hb
    rw [hLw_at (by omega)]
    exact (hne (by omega)).trans ((hne (by omega)).trans (hne (by omega)))
  have sh : ∀ {p' : Nat} {t' w' n' : Int32} {u' : Nat} {K' F' E' D' : Nat → Int32}, LSh (hLw (hK h1 g.2.2.2.1 K' F' E') g.2.2.2.1 l p' t' w' n' u' D') g.2.2.2.1 n' (nI u') K' F' E' D' := ⟨La (Y _ _ _), gk1 Z, gk2 Z, gk3 Z, La4 (Y _ _ _)⟩
  have fin : ∀ {h3 : mH} {p' t' w' : Int32}, h3.1[49]? = some (oT (nI l) p' t' w') → out (SGc g.2.2.2.1) h1 h3 → h3.1[0]? = some (oG g) → ∃ h5, ev O (d + 22) 79 0 [.ref 49] [] h3 = some (.inl (some (.int (w'))), (h3.1.set 49 (oT 0 p' t' w'), h3.2)) ∧ m_pf ((h3.1.set 49 (oT 0 p' t' w'), h3.2) : mH) 0 7 12 (.int w') = some h5 ∧ h5.1[0]? = some (oG (g.1, g.2.1, g.2.2.1, g.2.2.2.1, w', g.2.2.2.2.2)) ∧ h5.1[49]? = some (oT 0 p' t' w') ∧ (∀ b, LB g.2.2.2.1 b → h5.1[b]? = h3.1[b]?) ∧ out (SGc g.2.2.2.1) h h5 := by
    intro h3 p' t' w' k3 o3 G3
    have G4 : ((h3.1.set 49 (oT 0 p' t' w'), h3.2) : mH).1[0]? = some (oG g) := (hne (by decide)).trans G3
    refine ⟨_, close_ev O (d + 22) k3, pG12 G4 w', hget G4, (hne (by decide)).trans (hget k3), fun b hb => ?_, ?_⟩
    · unfold LB at hb
      exact (hne (by omega)).trans (hne (by omega))
    · exact (((o1.mo (fun b q => .inr (.inl q))).tr1 o3).tr1 (out.st h3 _ (.inr (.inl rfl)))).tr1 (out.st _ _ (.inl rfl))
  have m0 : m_isc h1 g.2.2.2.1 2 = true := L1.isc
  have G3 : ∀ {p' : Nat} {t' w' n' : Int32} {u' : Nat} {K' F' E' D' : Nat → Int32}, (hLw (hK h1 g.2.2.2.1 K' F' E') g.2.2.2.1 l p' t' w' n' u' D').1[0]? = some (oG g) := fun {p' t' w' n' u' K' F' E' D'} => by
    rw [hLw_at (by omega)]
    exact ((hne (by omega)).trans ((hne (by omega)).trans (hne (by omega)))).trans G1
  cases e : txS B l with
  | inl f =>
    rw [e] at rd
    obtain ⟨p', t', n', u', K', F', E', D', rd⟩ := rd
    obtain ⟨h5, a1, a2, a3, a4, a5, a6⟩ := fin (L49 (p := p') (t := t') (w := nI f) (n := n') (u := u') (D := D') (Y K' F' E')) oL1 G3
    obtain ⟨s0, s1, s2, s3, s4⟩ := sh (p' := p') (t' := t') (w' := nI f) (n' := n') (u' := u') (K' := K') (F' := F') (E' := E') (D' := D')
    refine ⟨h5, ?_, a3, ⟨_, _, _, a4⟩, ⟨n', nI u', K', F', E', D', (a5 _ (by unfold LB; omega)).trans s0, (a5 _ (by unfold LB; omega)).trans s1, (a5 _ (by unfold LB; omega)).trans s2, (a5 _ (by unfold LB; omega)).trans s3, (a5 _ (by unfold LB; omega)).trans s4⟩, a6⟩
    simp only [e_105_0, e_105_1, e_105_4, e_105_7, e_105_8, e_105_11, e_105_12, e_105_15, e_105_18, e_105_19, e_105_20, e_105_21, e_105_24, e_105_27, e_105_30, e_105_31, e_105_34, e_105_42, e_105_43, e_105_46, e_105_47, e_105_48, e_105_49, e_105_52, e_105_55, e_105_56, e_105_57, e_105_60, e_105_61, e_105_64, e_105_67, Option.bind_some, Option.bind_none, m_kt, m_kn, Option.toList_some, Option.toList_none, List.nil_append, List.cons_append, List.append_nil, ltn, ite_not, ↓reduceIte, true_or, or_true, nP1, oI_s, oI_n, bI_f, bI_t, i1_0, i0_0, Bool.false_eq_true, not_true_eq_false, not_false_eq_true, gG6 G, iscT e49, e1, gG4 G1, gG6 G1, m0, rd, gG6 G3, LtI (Y _ _ _), a1, a2]
  | inr M =>
    rw [e] at rd
    obtain ⟨p', t', K', F', E', D', rd, ln, -, -⟩ := rd
    rw [Nat.zero_add, Nat.zero_add] at rd
    obtain ⟨h5, a1, a2, a3, a4, a5, a6⟩ := fin (L49 (p := p') (t := t') (w := -1) (n := nI M.length) (u := tot M) (D := D') (Y K' F' E')) oL1 G3
    obtain ⟨s0, s1, s2, s3, s4⟩ := sh (p' := p') (t' := t') (w' := -1) (n' := nI M.length) (u' := tot M) (K' := K') (F' := F') (E' := E') (D' := D')
    let g6 : gT := (g.1, g.2.1, g.2.2.2.1, g.2.2.2.1, -1, g.2.2.2.2.2)
    let g7 : gT := (g.1, g.2.1, g.2.2.2.1, g.2.2.1, -1, g.2.2.2.2.2)
    let h6 : mH := (h5.1.set 0 (oG g6), h5.2)
    let h7 : mH := (h6.1.set 0 (oG g7), h6.2)
    have p6 : m_pf h5 0 7 3 (.ref g.2.2.2.1) = some h6 := pG3 a3 _
    have G6 : h6.1[0]? = some (oG g6) := hget a3
    have p7 : m_pf h6 0 7 4 (.ref g.2.2.1) = some h7 := pG4 G6 _
    have G7 : h7.1[0]? = some (oG g7) := hget G6
    have a7 : ∀ b, LB g.2.2.2.1 b → h7.1[b]? = (hLw (hK h1 g.2.2.2.1 K' F' E') g.2.2.2.1 l p' t' (-1) (nI M.length) (tot M) D').1[b]? := fun b hb => by
      have hb' := hb
      unfold LB at hb'
      exact ((hne (by omega)).trans (hne (by omega))).trans (a5 b hb)
    have q0 := (a7 g.2.2.2.1 (by unfold LB; omega)).trans s0
    have x1 : m_gf h5 0 7 3 = some (.ref g.2.2.1) := by have := gG3 a3; exact this
    have x2 : m_gf h5 0 7 4 = some (.ref g.2.2.2.1) := by have := gG4 a3; exact this
    have x3 : m_gf h7 0 7 3 = some (.ref g.2.2.2.1) := by have := gG3 G7; exact this
    refine ⟨h7, K', F', E', D', nI (tot M), ?_, G7, ⟨_, _, _, ((hne (by decide)).trans (hne (by decide))).trans a4⟩, ⟨q0, (a7 _ (by unfold LB; omega)).trans s1, (a7 _ (by unfold LB; omega)).trans s2, (a7 _ (by unfold LB; omega)).trans s3, (a7 _ (by unfold LB; omega)).trans s4⟩, ln, (a6.tr1 (out.st h5 _ (.inl rfl))).tr1 (out.st h6 _ (.inl rfl))⟩
    simp only [e_105_0, e_105_1, e_105_4, e_105_7, e_105_8, e_105_11, e_105_12, e_105_15, e_105_18, e_105_19, e_105_20, e_105_21, e_105_24, e_105_27, e_105_30, e_105_31, e_105_34, e_105_42, e_105_43, e_105_46, e_105_47, e_105_48, e_105_49, e_105_52, e_105_55, e_105_56, e_105_57, e_105_60, e_105_61, e_105_64, e_105_67, Option.bind_some, Option.bind_none, m_kt, m_kn, Option.toList_some, Option.toList_none, List.nil_append, List.cons_append, List.append_nil, ltn, ite_not, ↓reduceIte, true_or, or_true, nP1, oI_s, oI_n, bI_f, bI_t, i1_0, i0_0, Bool.false_eq_true, not_true_eq_false, not_false_eq_true, gG6 G, iscT e49, e1, gG4 G1, gG6 G1, m0, rd, gG6 G3, LtI (Y _ _ _), a1, a2, x1, x2, p6, p7, x3, gL0 q0]
end ReadL
