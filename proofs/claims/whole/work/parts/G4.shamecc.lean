/-! The class reads a condition: atoms, and, or -/
section LawR2
variable {h : mH} {a l p u : Nat} {t n : Int32} {B D : Nat → Int32}
def nvS (B : Nat → Int32) (l : Nat) (A : Nat → RS) (bo ba : Bool) (p : Nat) : RS := sbd (A p) fun x => pre (x.2 ++ (if ba = true then [(12, 0)] else [])) (sbd (lpP B l (tWd B l w_and) A 12 x.1) fun y => pre (y.2 ++ (if bo = true then [(13, 0)] else [])) (lpP B l (tWd B l w_or) (alS B l A) 13 y.1))
theorem nv_cn (A : Nat → RS) (p : Nat) : nvS B l A false false p = cnS B l A p := by
  unfold nvS cnS alS chn
  rw [sbd_sbd]
  congr 1
  funext x
  rw [sbd_pre, pre_sbd]
  congr 1
  funext y
  simp only [Bool.false_eq_true, ↓reduceIte, List.append_nil, pre_pre]
theorem nv_and (A : Nat → RS) (bo : Bool) (p : Nat) : (sbd (sbd (A p) fun z => pre (z.2 ++ [(12, 0)]) (lpP B l (tWd B l w_and) A 12 z.1)) fun y => pre (y.2 ++ (if bo = true then [(13, 0)] else [])) (lpP B l (tWd B l w_or) (alS B l A) 13 y.1)) = nvS B l A bo true p := by
  unfold nvS
  rw [sbd_sbd]
  congr 1
  funext x
  rw [sbd_pre, pre_sbd]
  congr 1
  funext y
  simp only [↓reduceIte, pre_pre, List.append_assoc]
theorem nv_or (A : Nat → RS) (p : Nat) : (sbd (alS B l A p) fun z => pre (z.2 ++ [(13, 0)]) (lpP B l (tWd B l w_or) (alS B l A) 13 z.1)) = nvS B l A true false p := by
  conv => lhs; unfold alS chn
  unfold nvS
  rw [sbd_sbd]
  congr 1
  funext x
  rw [sbd_pre, pre_sbd]
  congr 1
  funext y
  simp only [Bool.false_eq_true, ↓reduceIte, List.append_nil, pre_pre, List.append_assoc]
  rfl
def HA (O : mO) (e : Nat) (h : mH) (a l : Nat) (n : Int32) (dp : Nat) (A : Nat → RS) : Prop := ∀ (p u : Nat) (D : Nat → Int32) (t : Int32), p ≤ l → u + 4 ≤ p → CR (ev O (e) 54 0 [.ref a, .ref 49, .int (nI dp)] [] (hLw h a l p t (-1) n u D)) h a l n u D (A p)
theorem cond_run (O : mO) (d : Nat) (X : LTX O) (Z : LZ h a l B) {A : Nat → RS} {E dp : Nat} (G : GD l E true A) (H : HA O (d + 6) h a l n dp A) : ∀ (f i : Nat) (bo ba : Bool) {p u : Nat} {D : Nat → Int32} {t : Int32}, l < f + p → p ≤ l → u + 4 + (if bo = true then 1 else 0) + (if ba = true then 1 else 0) ≤ p → i + 4 ≤ p → CR (ev O (d + 7) 53 8 [.ref a, .ref 49, .int (nI dp), .int (bI bo), .int (bI ba), .int (nI i)] [] (hLw h a l p t (-1) n u D)) h a l n u D (nvS B l A bo ba p) := by
  have hl := Z.2.2.2.2.1
  obtain ⟨-, -, -, -, -, -, xan, xor⟩ := X
  intro f
  induction f with
  | zero => intro i bo ba p u D t h1 h2; omega
  | succ f ih =>
    intro i bo ba p u D t h1 h2 h3 h4
    have c1 : ¬ (400 : Int32) ≤ nI i := nI_ge (b := 400) (by omega) (by omega)
    have at1 := H p u D t h2 (by omega)
    unfold nvS
    cases ea : A p with
    | inl e =>
      rw [ea] at at1
      obtain ⟨p', t', u', D', at1⟩ := at1
      refine ⟨p', t', u', D', ?_⟩
      rw [e_53_8]
      simp only [e_53_0, e_53_1, e_53_2, e_53_3, e_53_5, e_53_6, e_53_10, e_53_13, e_53_16, e_53_17, e_53_18, e_53_19, e_53_22, e_53_25, e_53_26, e_53_27, e_53_29, e_53_32, e_53_33, e_53_36, e_53_39, e_53_40, e_53_41, e_53_43, e_53_46, e_53_48, e_53_50, e_53_53, e_53_56, e_53_57, e_53_60, e_53_61, e_53_64, e_53_67, e_53_68, e_53_69, e_53_71, e_53_74, e_53_75, e_53_76, e_53_79, e_53_80, e_53_81, e_53_84, e_53_87, e_53_88, Option.bind_some, Option.bind_none, m_kt, m_kn, Option.toList_some, Option.toList_none, List.nil_append, List.cons_append, List.append_nil, ltn, ite_not, ↓reduceIte, true_or, or_true, nP1, oI_s, oI_n, bI_f, bI_t, i1_0, i0_0, Bool.false_eq_true, not_true_eq_false, not_false_eq_true, c1, LaI Z, at1, z01]
    | inr x =>
      rw [ea] at at1
      obtain ⟨t1, at1⟩ := at1
      obtain ⟨x1, x2, x3, -⟩ := G p x h2 ea
      have sx := sb_le (B := B) x2
      have sy := sb_ge B l x.1
      simp only [sbd_r]
      have e1 : ∀ (c0 : CO), (ba = false → c0 = x.2) → (ba = true → c0 = x.2 ++ [(12, 0)]) → ∃ t2, ev O (d + 7) 53 8 [.ref a, .ref 49, .int (nI dp), .int (bI bo), .int (bI ba), .int (nI i)] [] (hLw h a l p t (-1) n u D) = ev O (d + 7) 53 40 [.ref a, .ref 49, .int (nI dp), .int (bI bo), .int (bI ba), .int (nI i)] [] (hLw h a l x.1 t2 (-1) n (u + c0.length) (wrC D u c0)) := by
        intro c0 q1 q2
        refine ⟨t1, ?_⟩
        rw [e_53_8]
        cases ba
        · rw [q1 rfl]
          simp only [e_53_0, e_53_1, e_53_2, e_53_3, e_53_5, e_53_6, e_53_10, e_53_13, e_53_16, e_53_17, e_53_18, e_53_19, e_53_22, e_53_25, e_53_26, e_53_27, e_53_29, e_53_32, e_53_33, e_53_36, e_53_39, e_53_41, e_53_43, e_53_46, e_53_48, e_53_50, e_53_53, e_53_56, e_53_57, e_53_60, e_53_61, e_53_64, e_53_67, e_53_68, e_53_69, e_53_71, e_53_74, e_53_75, e_53_76, e_53_79, e_53_80, e_53_81, e_53_84, e_53_87, e_53_88, Option.bind_some, Option.bind_none, m_kt, m_kn, Option.toList_some, Option.toList_none, List.nil_append, List.cons_append, List.append_nil, ltn, ite_not, ↓reduceIte, true_or, or_true, nP1, oI_s, oI_n, bI_f, bI_t, i1_0, i0_0, Bool.false_eq_true, not_true_eq_false, not_false_eq_true, c1, LaI Z, at1]
        · rw [q2 rfl, wrC_app, List.length_append]
          simp only [if_pos] at h3
          simp only [e_53_0, e_53_1, e_53_2, e_53_3, e_53_5, e_53_6, e_53_10, e_53_13, e_53_16, e_53_17, e_53_18, e_53_19, e_53_22, e_53_25, e_53_26, e_53_27, e_53_29, e_53_32, e_53_33, e_53_36, e_53_39, e_53_41, e_53_43, e_53_46, e_53_48, e_53_50, e_53_53, e_53_56, e_53_57, e_53_60, e_53_61, e_53_64, e_53_67, e_53_68, e_53_69, e_53_71, e_53_74, e_53_75, e_53_76, e_53_79, e_53_80, e_53_81, e_53_84, e_53_87, e_53_88, Option.bind_some, Option.bind_none, m_kt, m_kn, Option.toList_some, Option.toList_none, List.nil_append, List.cons_append, List.append_nil, ltn, ite_not, ↓reduceIte, true_or, or_true, nP1, oI_s, oI_n, bI_f, bI_t, i1_0, i0_0, Bool.false_eq_true, not_true_eq_false, not_false_eq_true, c1, LaI Z, at1, keep_ev O (d + 6) Z (show u + x.2.length < 400 by omega), cat_i, List.length_cons, List.length_nil, Nat.zero_add, wrC, (show cc 12 0 = 2003 from rfl), Nat.add_assoc]
      have hc : (x.2 ++ (if ba = true then [(12, 0)] else [])).length = x.2.length + (if ba = true then 1 else 0) := by
        cases ba <;> simp
      obtain ⟨t2, e1⟩ := e1 (x.2 ++ (if ba = true then [(12, 0)] else [])) (fun q => by rw [q]; simp) (fun q => by rw [q]; simp)
      generalize x.2 ++ (if ba = true then [(12, 0)] else []) = c0 at *
      refine CR_pre ?_
      rw [e1]
      generalize hD : wrC D u c0 = D1
      generalize hU : u + c0.length = u1
      have hu1 : u1 + 4 + (if bo = true then 1 else 0) ≤ x.1 := by omega
      rw [lpP_eq (tWd_g l_and) G.av x2]
      cases za : wd B l (sb B l x.1) w_and
      · have tn : tWd B l w_and x.1 = none := by unfold tWd; rw [za]; rfl
        rw [tn]
        simp only [sbd_r, List.nil_append]
        have e2 : ∀ (c2 : CO), (bo = false → c2 = []) → (bo = true → c2 = [(13, 0)]) → ev O (d + 7) 53 40 [.ref a, .ref 49, .int (nI dp), .int (bI bo), .int (bI ba), .int (nI i)] [] (hLw h a l x.1 t2 (-1) n u1 D1) = ev O (d + 7) 53 68 [.ref a, .ref 49, .int (nI dp), .int (bI bo), .int 0, .int (nI i)] [] (hLw h a l (sb B l x.1) t2 (-1) n (u1 + c2.length) (wrC D1 u1 c2)) := by
          intro c2 q1 q2
          cases bo
          · rw [q1 rfl]
            simp only [e_53_0, e_53_1, e_53_2, e_53_3, e_53_5, e_53_6, e_53_10, e_53_13, e_53_16, e_53_17, e_53_18, e_53_19, e_53_22, e_53_25, e_53_26, e_53_27, e_53_29, e_53_32, e_53_33, e_53_36, e_53_39, e_53_40, e_53_41, e_53_43, e_53_46, e_53_48, e_53_50, e_53_53, e_53_56, e_53_57, e_53_60, e_53_61, e_53_64, e_53_67, e_53_69, e_53_71, e_53_74, e_53_75, e_53_76, e_53_79, e_53_80, e_53_81, e_53_84, e_53_87, e_53_88, Option.bind_some, Option.bind_none, m_kt, m_kn, Option.toList_some, Option.toList_none, List.nil_append, List.cons_append, List.append_nil, ltn, ite_not, ↓reduceIte, true_or, or_true, nP1, oI_s, oI_n, bI_f, bI_t, i1_0, i0_0, Bool.false_eq_true, not_true_eq_false, not_false_eq_true, LtI Z, LtW O (d + 1) Z x2 xan l_and, za, List.length_nil, Nat.add_zero, wrC]
          · rw [q2 rfl]
            simp only [if_pos] at hu1
            simp only [e_53_0, e_53_1, e_53_2, e_53_3, e_53_5, e_53_6, e_53_10, e_53_13, e_53_16, e_53_17, e_53_18, e_53_19, e_53_22, e_53_25, e_53_26, e_53_27, e_53_29, e_53_32, e_53_33, e_53_36, e_53_39, e_53_40, e_53_41, e_53_43, e_53_46, e_53_48, e_53_50, e_53_53, e_53_56, e_53_57, e_53_60, e_53_61, e_53_64, e_53_67, e_53_69, e_53_71, e_53_74, e_53_75, e_53_76, e_53_79, e_53_80, e_53_81, e_53_84, e_53_87, e_53_88, Option.bind_some, Option.bind_none, m_kt, m_kn, Option.toList_some, Option.toList_none, List.nil_append, List.cons_append, List.append_nil, ltn, ite_not, ↓reduceIte, true_or, or_true, nP1, oI_s, oI_n, bI_f, bI_t, i1_0, i0_0, Bool.false_eq_true, not_true_eq_false, not_false_eq_true, LtI Z, LtW O (d + 1) Z x2 xan l_and, za, LaI Z, keep_ev O (d + 6) Z (show u1 < 400 by omega), cat_i, List.length_cons, List.length_nil, Nat.zero_add, wrC, (show cc 13 0 = 2004 from rfl)]
        have e2 := e2 (if bo = true then [(13, 0)] else []) (fun q => by rw [q]; rfl) (fun q => by rw [q]; rfl)
        have hc2 : (if bo = true then [((13 : Nat), (0 : Int32))] else []).length = (if bo = true then 1 else 0) := by cases bo <;> rfl
        generalize (if bo = true then [((13 : Nat), (0 : Int32))] else []) = c2 at *
        refine CR_pre ?_
        rw [e2]
        generalize wrC D1 u1 c2 = D2
        generalize hU2 : u1 + c2.length = u2
        have hu2 : u2 + 4 ≤ x.1 := by omega
        rw [lpP_eq (tWd_g l_or) (alS_ok G).av sx]
        cases zo : wd B l (sb B l x.1) w_or
        · have tn2 : tWd B l w_or (sb B l x.1) = none := by unfold tWd; rw [sb_sb, zo]; rfl
          rw [tn2]
          refine ⟨t2, ?_⟩
          simp only [e_53_0, e_53_1, e_53_2, e_53_3, e_53_5, e_53_6, e_53_10, e_53_13, e_53_16, e_53_17, e_53_18, e_53_19, e_53_22, e_53_25, e_53_26, e_53_27, e_53_29, e_53_32, e_53_33, e_53_36, e_53_39, e_53_40, e_53_41, e_53_43, e_53_46, e_53_48, e_53_50, e_53_53, e_53_56, e_53_57, e_53_60, e_53_61, e_53_64, e_53_67, e_53_68, e_53_69, e_53_71, e_53_74, e_53_75, e_53_76, e_53_79, e_53_80, e_53_81, e_53_84, e_53_87, e_53_88, Option.bind_some, Option.bind_none, m_kt, m_kn, Option.toList_some, Option.toList_none, List.nil_append, List.cons_append, List.append_nil, ltn, ite_not, ↓reduceIte, true_or, or_true, nP1, oI_s, oI_n, bI_f, bI_t, i1_0, i0_0, Bool.false_eq_true, not_true_eq_false, not_false_eq_true, LtI Z, LtW O (d + 1) Z sx xor l_or, sb_sb, zo, o01, List.length_nil, Nat.add_zero, wrC]
        · have tn2 : tWd B l w_or (sb B l x.1) = some (sb B l x.1 + 2) := by unfold tWd; rw [sb_sb, zo]; rfl
          have wl := (wd_le l_or zo).2
          rw [show w_or.length = 2 from rfl] at wl
          rw [tn2]
          simp only
          rw [nv_or]
          have r := ih (i + 1) true false (p := sb B l x.1 + 2) (u := u2) (D := D2) (t := nI (sb B l x.1)) (by omega) wl (by simp only [↓reduceIte, Bool.false_eq_true]; omega) (by omega)
          simp only [e_53_0, e_53_1, e_53_2, e_53_3, e_53_5, e_53_6, e_53_10, e_53_13, e_53_16, e_53_17, e_53_18, e_53_19, e_53_22, e_53_25, e_53_26, e_53_27, e_53_29, e_53_32, e_53_33, e_53_36, e_53_39, e_53_40, e_53_41, e_53_43, e_53_46, e_53_48, e_53_50, e_53_53, e_53_56, e_53_57, e_53_60, e_53_61, e_53_64, e_53_67, e_53_68, e_53_69, e_53_71, e_53_74, e_53_75, e_53_76, e_53_79, e_53_80, e_53_81, e_53_84, e_53_87, e_53_88, Option.bind_some, Option.bind_none, m_kt, m_kn, Option.toList_some, Option.toList_none, List.nil_append, List.cons_append, List.append_nil, ltn, ite_not, ↓reduceIte, true_or, or_true, nP1, oI_s, oI_n, bI_f, bI_t, i1_0, i0_0, Bool.false_eq_true, not_true_eq_false, not_false_eq_true, LtI Z, LtW O (d + 1) Z sx xor l_or, sb_sb, zo, (show w_or.length = 2 from rfl)]
          exact r
      · have tn : tWd B l w_and x.1 = some (sb B l x.1 + 3) := by unfold tWd; rw [za]; rfl
        have wl := (wd_le l_and za).2
        rw [show w_and.length = 3 from rfl] at wl
        rw [tn]
        simp only
        rw [nv_and]
        have r := ih (i + 1) bo true (p := sb B l x.1 + 3) (u := u1) (D := D1) (t := nI (sb B l x.1)) (by omega) wl (by simp only [↓reduceIte]; omega) (by omega)
        simp only [e_53_0, e_53_1, e_53_2, e_53_3, e_53_5, e_53_6, e_53_10, e_53_13, e_53_16, e_53_17, e_53_18, e_53_19, e_53_22, e_53_25, e_53_26, e_53_27, e_53_29, e_53_32, e_53_33, e_53_36, e_53_39, e_53_40, e_53_41, e_53_43, e_53_46, e_53_48, e_53_50, e_53_53, e_53_56, e_53_57, e_53_60, e_53_61, e_53_64, e_53_67, e_53_68, e_53_69, e_53_71, e_53_74, e_53_75, e_53_76, e_53_79, e_53_80, e_53_81, e_53_84, e_53_87, e_53_88, Option.bind_some, Option.bind_none, m_kt, m_kn, Option.toList_some, Option.toList_none, List.nil_append, List.cons_append, List.append_nil, ltn, ite_not, ↓reduceIte, true_or, or_true, nP1, oI_s, oI_n, bI_f, bI_t, i1_0, i0_0, Bool.false_eq_true, not_true_eq_false, not_false_eq_true, LtI Z, LtW O (d + 1) Z x2 xan l_and, za, (show w_and.length = 3 from rfl)]
        exact r
theorem readCond_ev (O : mO) (d : Nat) (X : LTX O) (Z : LZ h a l B) {A : Nat → RS} {E dp : Nat} (G : GD l E true A) (H : HA O (d + 6) h a l n dp A) (hp' : p ≤ l) (hu : u + 4 ≤ p) : CR (ev O (d + 7) 53 0 [.ref a, .ref 49, .int (nI dp), mJ, mJ, mJ] [] (hLw h a l p t (-1) n u D)) h a l n u D (cnS B l A p) := by
  have r := cond_run (D := D) (t := t) O d X Z G H (l + 1) 0 false false (by omega) hp' (by simp only [Bool.false_eq_true, ↓reduceIte]; omega) (by omega)
  rw [nv_cn, nI_0] at r
  simp only [e_53_0, e_53_1, e_53_2, e_53_3, e_53_5, e_53_6, e_53_10, e_53_13, e_53_16, e_53_17, e_53_18, e_53_19, e_53_22, e_53_25, e_53_26, e_53_27, e_53_29, e_53_32, e_53_33, e_53_36, e_53_39, e_53_40, e_53_41, e_53_43, e_53_46, e_53_48, e_53_50, e_53_53, e_53_56, e_53_57, e_53_60, e_53_61, e_53_64, e_53_67, e_53_68, e_53_69, e_53_71, e_53_74, e_53_75, e_53_76, e_53_79, e_53_80, e_53_81, e_53_84, e_53_87, e_53_88, Option.bind_some, Option.bind_none, m_kt, m_kn, Option.toList_some, Option.toList_none, List.nil_append, List.cons_append, List.append_nil, ltn, ite_not, ↓reduceIte, true_or, or_true, nP1, oI_s, oI_n, bI_f, bI_t, i1_0, i0_0, Bool.false_eq_true, not_true_eq_false, not_false_eq_true]
  exact r
theorem CR_b {r : Option mR} {s : RS} (L : CR r h a l n u D s) {f : Option Value → mH → Option mR} (hf : ∀ (x : Int32) (h' : mH), (x = 0 ∨ x = 1) → f (some (.int x)) h' = some (.inl (some (.int (x))), h')) : CR (r.bind (m_kt f)) h a l n u D s := by
  unfold CR at *
  cases s with
  | inl e => obtain ⟨p', t', u', D', a1⟩ := L; exact ⟨p', t', u', D', by rw [a1]; exact hf 0 _ (.inl rfl)⟩
  | inr x => obtain ⟨t', a1⟩ := L; exact ⟨t', by rw [a1]; exact hf 1 _ (.inr rfl)⟩
/-- a sum, a sign, a sum -/
theorem two_ev (O : mO) (e : Nat) (X : LTX O) (Z : LZ h a l B) (i : Int32) (hp' : p ≤ l) (hu : u + 4 ≤ p) : CR (ev O (e + 7) 54 102 [.ref a, .ref 49, .int i] [] (hLw h a l p t (-1) n u D)) h a l n u D (sbd (suS B l p) fun x =>
    if sg B l x.1 60 = true then sbd (suS B l (sb B l x.1 + 1)) fun y => .inr (y.1, x.2 ++ (y.2 ++ [(9, 0)]))
    else if sg B l x.1 62 = true then sbd (suS B l (sb B l x.1 + 1)) fun y => .inr (y.1, x.2 ++ (y.2 ++ [(10, 0)]))
    else .inl (sb B l x.1)) := by
  have hl := Z.2.2.2.2.1
  have s1 := readSum_ev (t := t) (n := n) (D := D) O e X Z hp' hu
  cases e1 : suS B l p with
  | inl f =>
    rw [e1] at s1
    obtain ⟨p', t', u', D', s1⟩ := s1
    refine ⟨p', t', u', D', ?_⟩
    simp only [e_54_0, e_54_1, e_54_3, e_54_6, e_54_9, e_54_10, e_54_12, e_54_15, e_54_16, e_54_19, e_54_20, e_54_21, e_54_22, e_54_23, e_54_24, e_54_25, e_54_28, e_54_31, e_54_32, e_54_35, e_54_38, e_54_41, e_54_42, e_54_45, e_54_46, e_54_47, e_54_48, e_54_50, e_54_53, e_54_56, e_54_57, e_54_59, e_54_62, e_54_63, e_54_66, e_54_67, e_54_68, e_54_69, e_54_70, e_54_71, e_54_72, e_54_75, e_54_78, e_54_79, e_54_80, e_54_81, e_54_83, e_54_86, e_54_89, e_54_90, e_54_93, e_54_96, e_54_97, e_54_100, e_54_101, e_54_102, e_54_103, e_54_104, e_54_107, e_54_110, e_54_111, e_54_112, e_54_113, e_54_115, e_54_118, e_54_121, e_54_122, e_54_123, e_54_126, e_54_129, e_54_130, e_54_133, e_54_136, e_54_139, e_54_140, e_54_143, e_54_144, e_54_145, e_54_146, e_54_148, e_54_151, e_54_154, e_54_155, e_54_156, e_54_159, e_54_162, e_54_163, e_54_166, e_54_169, e_54_172, e_54_173, e_54_176, e_54_177, e_54_178, e_54_179, e_54_182, Option.bind_some, Option.bind_none, m_kt, m_kn, Option.toList_some, Option.toList_none, List.nil_append, List.cons_append, List.append_nil, ltn, ite_not, ↓reduceIte, true_or, or_true, nP1, oI_s, oI_n, bI_f, bI_t, i1_0, i0_0, Bool.false_eq_true, not_true_eq_false, not_false_eq_true, LaI Z, s1, z01]
  | inr x =>
    rw [e1] at s1
    obtain ⟨t1, s1⟩ := s1
    obtain ⟨x1, x2, x3, -⟩ := suS_ok p x hp' e1
    have sx := sb_le (B := B) x2
    have sy := sb_ge B l x.1
    simp only [sbd_r]
    cases z6 : sg B l x.1 60
    · cases z7 : sg B l x.1 62
      · refine ⟨sb B l x.1, t1, u + x.2.length, wrC D u x.2, ?_⟩
        have z6' : sg B l (sb B l x.1) 62 = false := by unfold sg at *; rw [sb_sb]; exact z7
        simp only [e_54_0, e_54_1, e_54_3, e_54_6, e_54_9, e_54_10, e_54_12, e_54_15, e_54_16, e_54_19, e_54_20, e_54_21, e_54_22, e_54_23, e_54_24, e_54_25, e_54_28, e_54_31, e_54_32, e_54_35, e_54_38, e_54_41, e_54_42, e_54_45, e_54_46, e_54_47, e_54_48, e_54_50, e_54_53, e_54_56, e_54_57, e_54_59, e_54_62, e_54_63, e_54_66, e_54_67, e_54_68, e_54_69, e_54_70, e_54_71, e_54_72, e_54_75, e_54_78, e_54_79, e_54_80, e_54_81, e_54_83, e_54_86, e_54_89, e_54_90, e_54_93, e_54_96, e_54_97, e_54_100, e_54_101, e_54_102, e_54_103, e_54_104, e_54_107, e_54_110, e_54_111, e_54_112, e_54_113, e_54_115, e_54_118, e_54_121, e_54_122, e_54_123, e_54_126, e_54_129, e_54_130, e_54_133, e_54_136, e_54_139, e_54_140, e_54_143, e_54_144, e_54_145, e_54_146, e_54_148, e_54_151, e_54_154, e_54_155, e_54_156, e_54_159, e_54_162, e_54_163, e_54_166, e_54_169, e_54_172, e_54_173, e_54_176, e_54_177, e_54_178, e_54_179, e_54_182, Option.bind_some, Option.bind_none, m_kt, m_kn, Option.toList_some, Option.toList_none, List.nil_append, List.cons_append, List.append_nil, ltn, ite_not, ↓reduceIte, true_or, or_true, nP1, oI_s, oI_n, bI_f, bI_t, i1_0, i0_0, Bool.false_eq_true, not_true_eq_false, not_false_eq_true, LaI Z, s1, LtI Z, LtS O (e + 5) Z x2, z6, LtS O (e + 5) Z sx, z6', sb_sb, LrN O (e + 5) Z sx, z01]
      · have zl := (sg_lt z7).1
        have z7' : sg B l (sb B l x.1) 62 = true := by unfold sg at *; rw [sb_sb]; exact z7
        have s2 := readSum_ev (t := nI (sb B l x.1)) (n := n) (p := sb B l x.1 + 1) (u := u + x.2.length) (D := wrC D u x.2) O e X Z (by omega) (by omega)
        simp only [Bool.false_eq_true, ↓reduceIte]
        cases e2 : suS B l (sb B l x.1 + 1) with
        | inl f =>
          rw [e2] at s2
          obtain ⟨p', t', u', D', s2⟩ := s2
          refine ⟨p', t', u', D', ?_⟩
          simp only [e_54_0, e_54_1, e_54_3, e_54_6, e_54_9, e_54_10, e_54_12, e_54_15, e_54_16, e_54_19, e_54_20, e_54_21, e_54_22, e_54_23, e_54_24, e_54_25, e_54_28, e_54_31, e_54_32, e_54_35, e_54_38, e_54_41, e_54_42, e_54_45, e_54_46, e_54_47, e_54_48, e_54_50, e_54_53, e_54_56, e_54_57, e_54_59, e_54_62, e_54_63, e_54_66, e_54_67, e_54_68, e_54_69, e_54_70, e_54_71, e_54_72, e_54_75, e_54_78, e_54_79, e_54_80, e_54_81, e_54_83, e_54_86, e_54_89, e_54_90, e_54_93, e_54_96, e_54_97, e_54_100, e_54_101, e_54_102, e_54_103, e_54_104, e_54_107, e_54_110, e_54_111, e_54_112, e_54_113, e_54_115, e_54_118, e_54_121, e_54_122, e_54_123, e_54_126, e_54_129, e_54_130, e_54_133, e_54_136, e_54_139, e_54_140, e_54_143, e_54_144, e_54_145, e_54_146, e_54_148, e_54_151, e_54_154, e_54_155, e_54_156, e_54_159, e_54_162, e_54_163, e_54_166, e_54_169, e_54_172, e_54_173, e_54_176, e_54_177, e_54_178, e_54_179, e_54_182, Option.bind_some, Option.bind_none, m_kt, m_kn, Option.toList_some, Option.toList_none, List.nil_append, List.cons_append, List.append_nil, ltn, ite_not, ↓reduceIte, true_or, or_true, nP1, oI_s, oI_n, bI_f, bI_t, i1_0, i0_0, Bool.false_eq_true, not_true_eq_false, not_false_eq_true, LaI Z, s1, LtI Z, LtS O (e + 5) Z x2, z6, LtS O (e + 5) Z sx, z7', sb_sb, s2, z01]
        | inr y =>
          rw [e2] at s2
          obtain ⟨t2, s2⟩ := s2
          obtain ⟨y1, y2, y3, -⟩ := suS_ok _ y (by omega) e2
          refine ⟨t2, ?_⟩
          simp only [wrC_app, List.length_append, List.length_cons, List.length_nil, Nat.zero_add, ← Nat.add_assoc, wrC]
          simp only [e_54_0, e_54_1, e_54_3, e_54_6, e_54_9, e_54_10, e_54_12, e_54_15, e_54_16, e_54_19, e_54_20, e_54_21, e_54_22, e_54_23, e_54_24, e_54_25, e_54_28, e_54_31, e_54_32, e_54_35, e_54_38, e_54_41, e_54_42, e_54_45, e_54_46, e_54_47, e_54_48, e_54_50, e_54_53, e_54_56, e_54_57, e_54_59, e_54_62, e_54_63, e_54_66, e_54_67, e_54_68, e_54_69, e_54_70, e_54_71, e_54_72, e_54_75, e_54_78, e_54_79, e_54_80, e_54_81, e_54_83, e_54_86, e_54_89, e_54_90, e_54_93, e_54_96, e_54_97, e_54_100, e_54_101, e_54_102, e_54_103, e_54_104, e_54_107, e_54_110, e_54_111, e_54_112, e_54_113, e_54_115, e_54_118, e_54_121, e_54_122, e_54_123, e_54_126, e_54_129, e_54_130, e_54_133, e_54_136, e_54_139, e_54_140, e_54_143, e_54_144, e_54_145, e_54_146, e_54_148, e_54_151, e_54_154, e_54_155, e_54_156, e_54_159, e_54_162, e_54_163, e_54_166, e_54_169, e_54_172, e_54_173, e_54_176, e_54_177, e_54_178, e_54_179, e_54_182, Option.bind_some, Option.bind_none, m_kt, m_kn, Option.toList_some, Option.toList_none, List.nil_append, List.cons_append, List.append_nil, ltn, ite_not, ↓reduceIte, true_or, or_true, nP1, oI_s, oI_n, bI_f, bI_t, i1_0, i0_0, Bool.false_eq_true, not_true_eq_false, not_false_eq_true, LaI Z, s1, LtI Z, LtS O (e + 5) Z x2, z6, LtS O (e + 5) Z sx, z7', sb_sb, s2, keep_ev O (e + 6) Z (show u + x.2.length + y.2.length < 400 by omega), o01, wrC, (show cc 10 0 = 2002 from rfl)]
    · have zl := (sg_lt z6).1
      have s2 := readSum_ev (t := nI (sb B l x.1)) (n := n) (p := sb B l x.1 + 1) (u := u + x.2.length) (D := wrC D u x.2) O e X Z (by omega) (by omega)
      simp only [↓reduceIte]
      cases e2 : suS B l (sb B l x.1 + 1) with
      | inl f =>
        rw [e2] at s2
        obtain ⟨p', t', u', D', s2⟩ := s2
        refine ⟨p', t', u', D', ?_⟩
        simp only [e_54_0, e_54_1, e_54_3, e_54_6, e_54_9, e_54_10, e_54_12, e_54_15, e_54_16, e_54_19, e_54_20, e_54_21, e_54_22, e_54_23, e_54_24, e_54_25, e_54_28, e_54_31, e_54_32, e_54_35, e_54_38, e_54_41, e_54_42, e_54_45, e_54_46, e_54_47, e_54_48, e_54_50, e_54_53, e_54_56, e_54_57, e_54_59, e_54_62, e_54_63, e_54_66, e_54_67, e_54_68, e_54_69, e_54_70, e_54_71, e_54_72, e_54_75, e_54_78, e_54_79, e_54_80, e_54_81, e_54_83, e_54_86, e_54_89, e_54_90, e_54_93, e_54_96, e_54_97, e_54_100, e_54_101, e_54_102, e_54_103, e_54_104, e_54_107, e_54_110, e_54_111, e_54_112, e_54_113, e_54_115, e_54_118, e_54_121, e_54_122, e_54_123, e_54_126, e_54_129, e_54_130, e_54_133, e_54_136, e_54_139, e_54_140, e_54_143, e_54_144, e_54_145, e_54_146, e_54_148, e_54_151, e_54_154, e_54_155, e_54_156, e_54_159, e_54_162, e_54_163, e_54_166, e_54_169, e_54_172, e_54_173, e_54_176, e_54_177, e_54_178, e_54_179, e_54_182, Option.bind_some, Option.bind_none, m_kt, m_kn, Option.toList_some, Option.toList_none, List.nil_append, List.cons_append, List.append_nil, ltn, ite_not, ↓reduceIte, true_or, or_true, nP1, oI_s, oI_n, bI_f, bI_t, i1_0, i0_0, Bool.false_eq_true, not_true_eq_false, not_false_eq_true, LaI Z, s1, LtI Z, LtS O (e + 5) Z x2, z6, s2, z01]
      | inr y =>
        rw [e2] at s2
        obtain ⟨t2, s2⟩ := s2
        obtain ⟨y1, y2, y3, -⟩ := suS_ok _ y (by omega) e2
        refine ⟨t2, ?_⟩
        simp only [wrC_app, List.length_append, List.length_cons, List.length_nil, Nat.zero_add, ← Nat.add_assoc, wrC]
        simp only [e_54_0, e_54_1, e_54_3, e_54_6, e_54_9, e_54_10, e_54_12, e_54_15, e_54_16, e_54_19, e_54_20, e_54_21, e_54_22, e_54_23, e_54_24, e_54_25, e_54_28, e_54_31, e_54_32, e_54_35, e_54_38, e_54_41, e_54_42, e_54_45, e_54_46, e_54_47, e_54_48, e_54_50, e_54_53, e_54_56, e_54_57, e_54_59, e_54_62, e_54_63, e_54_66, e_54_67, e_54_68, e_54_69, e_54_70, e_54_71, e_54_72, e_54_75, e_54_78, e_54_79, e_54_80, e_54_81, e_54_83, e_54_86, e_54_89, e_54_90, e_54_93, e_54_96, e_54_97, e_54_100, e_54_101, e_54_102, e_54_103, e_54_104, e_54_107, e_54_110, e_54_111, e_54_112, e_54_113, e_54_115, e_54_118, e_54_121, e_54_122, e_54_123, e_54_126, e_54_129, e_54_130, e_54_133, e_54_136, e_54_139, e_54_140, e_54_143, e_54_144, e_54_145, e_54_146, e_54_148, e_54_151, e_54_154, e_54_155, e_54_156, e_54_159, e_54_162, e_54_163, e_54_166, e_54_169, e_54_172, e_54_173, e_54_176, e_54_177, e_54_178, e_54_179, e_54_182, Option.bind_some, Option.bind_none, m_kt, m_kn, Option.toList_some, Option.toList_none, List.nil_append, List.cons_append, List.append_nil, ltn, ite_not, ↓reduceIte, true_or, or_true, nP1, oI_s, oI_n, bI_f, bI_t, i1_0, i0_0, Bool.false_eq_true, not_true_eq_false, not_false_eq_true, LaI Z, s1, LtI Z, LtS O (e + 5) Z x2, z6, s2, keep_ev O (e + 6) Z (show u + x.2.length + y.2.length < 400 by omega), o01, wrC, (show cc 9 0 = 2001 from rfl)]
theorem not_sg {q : Nat} (hq : sb B l q = p) (z : wd B l p w_not = true) : sg B l q 40 = false := by
  unfold wd at z
  simp only [Bool.and_eq_true, decide_eq_true_eq] at z
  have b0 := mat_i z.2.2 (i := 0) (by decide)
  rw [Nat.add_zero] at b0
  unfold sg
  rw [hq, b0]
  rw [show decide (nI (w_not.getD 0 0) = 40) = false from by decide, Bool.and_false]
theorem lev_ev (O : mO) (X : LTX O) (Z : LZ h a l B) : ∀ r, r ≤ 6 → ∀ e, 2 * r ≤ e → HA O (e + 7) h a l n (6 - r) (lev B l r) := by
  have hl := Z.2.2.2.2.1
  have X0 := X
  obtain ⟨-, -, -, -, xno, -, -, -⟩ := X
  intro r
  induction r with
  | zero =>
    intro hr e he p u D t hp' hu
    have sp := sb_le (B := B) hp'
    have sq := sb_ge B l p
    show CR _ h a l n u D (atS B l none p)
    unfold atS
    cases z1 : wd B l (sb B l p) w_not
    · cases z2 : sg B l p 40
      · simp only [Bool.false_eq_true, ↓reduceIte]
        have z2' : sg B l (sb B l p) 40 = false := by unfold sg at *; rw [sb_sb]; exact z2
        have r := two_ev (t := t) (n := n) (D := D) O e X0 Z (nI (6 - 0)) (p := sb B l p) (u := u) sp (by omega)
        simp only [e_54_0, e_54_1, e_54_3, e_54_6, e_54_9, e_54_10, e_54_12, e_54_15, e_54_16, e_54_19, e_54_20, e_54_21, e_54_22, e_54_23, e_54_24, e_54_25, e_54_28, e_54_31, e_54_32, e_54_35, e_54_38, e_54_41, e_54_42, e_54_45, e_54_46, e_54_47, e_54_48, e_54_50, e_54_53, e_54_56, e_54_57, e_54_59, e_54_62, e_54_63, e_54_66, e_54_67, e_54_68, e_54_69, e_54_70, e_54_71, e_54_72, e_54_75, e_54_78, e_54_79, e_54_80, e_54_81, e_54_83, e_54_86, e_54_89, e_54_90, e_54_93, e_54_96, e_54_97, e_54_100, e_54_101, e_54_103, e_54_104, e_54_107, e_54_110, e_54_111, e_54_112, e_54_113, e_54_115, e_54_118, e_54_121, e_54_122, e_54_123, e_54_126, e_54_129, e_54_130, e_54_133, e_54_136, e_54_139, e_54_140, e_54_143, e_54_144, e_54_145, e_54_146, e_54_148, e_54_151, e_54_154, e_54_155, e_54_156, e_54_159, e_54_162, e_54_163, e_54_166, e_54_169, e_54_172, e_54_173, e_54_176, e_54_177, e_54_178, e_54_179, e_54_182, Option.bind_some, Option.bind_none, m_kt, m_kn, Option.toList_some, Option.toList_none, List.nil_append, List.cons_append, List.append_nil, ltn, ite_not, ↓reduceIte, true_or, or_true, nP1, oI_s, oI_n, bI_f, bI_t, i1_0, i0_0, Bool.false_eq_true, not_true_eq_false, not_false_eq_true, LtI Z, LtW O (e + 1) Z hp' xno l_not, z1, LtS O (e + 5) Z sp, z2', sb_sb]
        exact r
      · have zl := (sg_lt z2).1
        have z2' : sg B l (sb B l p) 40 = true := by unfold sg at *; rw [sb_sb]; exact z2
        refine ⟨sb B l p + 1, nI (sb B l p), u, D, ?_⟩
        simp only [e_54_0, e_54_1, e_54_3, e_54_6, e_54_9, e_54_10, e_54_12, e_54_15, e_54_16, e_54_19, e_54_20, e_54_21, e_54_22, e_54_23, e_54_24, e_54_25, e_54_28, e_54_31, e_54_32, e_54_35, e_54_38, e_54_41, e_54_42, e_54_45, e_54_46, e_54_47, e_54_48, e_54_50, e_54_53, e_54_56, e_54_57, e_54_59, e_54_62, e_54_63, e_54_66, e_54_67, e_54_68, e_54_69, e_54_70, e_54_71, e_54_72, e_54_75, e_54_78, e_54_79, e_54_80, e_54_81, e_54_83, e_54_86, e_54_89, e_54_90, e_54_93, e_54_96, e_54_97, e_54_100, e_54_101, e_54_103, e_54_104, e_54_107, e_54_110, e_54_111, e_54_112, e_54_113, e_54_115, e_54_118, e_54_121, e_54_122, e_54_123, e_54_126, e_54_129, e_54_130, e_54_133, e_54_136, e_54_139, e_54_140, e_54_143, e_54_144, e_54_145, e_54_146, e_54_148, e_54_151, e_54_154, e_54_155, e_54_156, e_54_159, e_54_162, e_54_163, e_54_166, e_54_169, e_54_172, e_54_173, e_54_176, e_54_177, e_54_178, e_54_179, e_54_182, Option.bind_some, Option.bind_none, m_kt, m_kn, Option.toList_some, Option.toList_none, List.nil_append, List.cons_append, List.append_nil, ltn, ite_not, ↓reduceIte, true_or, or_true, nP1, oI_s, oI_n, bI_f, bI_t, i1_0, i0_0, Bool.false_eq_true, not_true_eq_false, not_false_eq_true, LtI Z, LtW O (e + 1) Z hp' xno l_not, z1, LtS O (e + 5) Z sp, z2', sb_sb, (show ((6 : Int32) ≤ nI (6 - 0)) = True by decide), LrT O (e + 6) Z, z01]
    · refine ⟨sb B l p + 3, nI (sb B l p), u, D, ?_⟩
      simp only [e_54_0, e_54_1, e_54_3, e_54_6, e_54_9, e_54_10, e_54_12, e_54_15, e_54_16, e_54_19, e_54_20, e_54_21, e_54_22, e_54_23, e_54_24, e_54_25, e_54_28, e_54_31, e_54_32, e_54_35, e_54_38, e_54_41, e_54_42, e_54_45, e_54_46, e_54_47, e_54_48, e_54_50, e_54_53, e_54_56, e_54_57, e_54_59, e_54_62, e_54_63, e_54_66, e_54_67, e_54_68, e_54_69, e_54_70, e_54_71, e_54_72, e_54_75, e_54_78, e_54_79, e_54_80, e_54_81, e_54_83, e_54_86, e_54_89, e_54_90, e_54_93, e_54_96, e_54_97, e_54_100, e_54_101, e_54_103, e_54_104, e_54_107, e_54_110, e_54_111, e_54_112, e_54_113, e_54_115, e_54_118, e_54_121, e_54_122, e_54_123, e_54_126, e_54_129, e_54_130, e_54_133, e_54_136, e_54_139, e_54_140, e_54_143, e_54_144, e_54_145, e_54_146, e_54_148, e_54_151, e_54_154, e_54_155, e_54_156, e_54_159, e_54_162, e_54_163, e_54_166, e_54_169, e_54_172, e_54_173, e_54_176, e_54_177, e_54_178, e_54_179, e_54_182, Option.bind_some, Option.bind_none, m_kt, m_kn, Option.toList_some, Option.toList_none, List.nil_append, List.cons_append, List.append_nil, ltn, ite_not, ↓reduceIte, true_or, or_true, nP1, oI_s, oI_n, bI_f, bI_t, i1_0, i0_0, Bool.false_eq_true, not_true_eq_false, not_false_eq_true, LtI Z, LtW O (e + 1) Z hp' xno l_not, z1, (show w_not.length = 3 from rfl), (show ((6 : Int32) ≤ nI (6 - 0)) = True by decide), LrT O (e + 6) Z, z01]
  | succ r ih =>
    intro hr e he p u D t hp' hu
    obtain ⟨e', rfl⟩ : ∃ e', e = e' + 2 := ⟨e - 2, by omega⟩
    have sp := sb_le (B := B) hp'
    have sq := sb_ge B l p
    have c6 : ¬ (6 : Int32) ≤ nI (6 - (r + 1)) := nI_ge (b := 6) (by omega) (by omega)
    have d6 : nI (6 - (r + 1)) + 1 = nI (6 - r) := by rw [nP1, show 6 - (r + 1) + 1 = 6 - r by omega]
    have ia := ih (by omega) (e' + 1) (by omega)
    have ic := ih (by omega) e' (by omega)
    have G := lev_ok (B := B) (l := l) r
    show CR _ h a l n u D (atS B l (some (lev B l r)) p)
    unfold atS
    cases z1 : wd B l (sb B l p) w_not
    · cases z2 : sg B l p 40
      · simp only [Bool.false_eq_true, ↓reduceIte]
        have z2' : sg B l (sb B l p) 40 = false := by unfold sg at *; rw [sb_sb]; exact z2
        have r := two_ev (t := t) (n := n) (D := D) O (e' + 2) X0 Z (nI (6 - (r + 1))) (p := sb B l p) (u := u) sp (by omega)
        simp only [e_54_0, e_54_1, e_54_3, e_54_6, e_54_9, e_54_10, e_54_12, e_54_15, e_54_16, e_54_19, e_54_20, e_54_21, e_54_22, e_54_23, e_54_24, e_54_25, e_54_28, e_54_31, e_54_32, e_54_35, e_54_38, e_54_41, e_54_42, e_54_45, e_54_46, e_54_47, e_54_48, e_54_50, e_54_53, e_54_56, e_54_57, e_54_59, e_54_62, e_54_63, e_54_66, e_54_67, e_54_68, e_54_69, e_54_70, e_54_71, e_54_72, e_54_75, e_54_78, e_54_79, e_54_80, e_54_81, e_54_83, e_54_86, e_54_89, e_54_90, e_54_93, e_54_96, e_54_97, e_54_100, e_54_101, e_54_103, e_54_104, e_54_107, e_54_110, e_54_111, e_54_112, e_54_113, e_54_115, e_54_118, e_54_121, e_54_122, e_54_123, e_54_126, e_54_129, e_54_130, e_54_133, e_54_136, e_54_139, e_54_140, e_54_143, e_54_144, e_54_145, e_54_146, e_54_148, e_54_151, e_54_154, e_54_155, e_54_156, e_54_159, e_54_162, e_54_163, e_54_166, e_54_169, e_54_172, e_54_173, e_54_176, e_54_177, e_54_178, e_54_179, e_54_182, Option.bind_some, Option.bind_none, m_kt, m_kn, Option.toList_some, Option.toList_none, List.nil_append, List.cons_append, List.append_nil, ltn, ite_not, ↓reduceIte, true_or, or_true, nP1, oI_s, oI_n, bI_f, bI_t, i1_0, i0_0, Bool.false_eq_true, not_true_eq_false, not_false_eq_true, LtI Z, LtW O (e' + 3) Z hp' xno l_not, z1, LtS O (e' + 7) Z sp, z2', sb_sb]
        exact r
      · have zl := (sg_lt z2).1
        have z2' : sg B l (sb B l p) 40 = true := by unfold sg at *; rw [sb_sb]; exact z2
        have rc := readCond_ev (t := nI (sb B l p)) (p := sb B l p + 1) (u := u) (D := D) O (e' + 1) X0 Z G ic (by omega) (by omega)
        simp only [Bool.false_eq_true, ↓reduceIte]
        cases e1 : cnS B l (lev B l r) (sb B l p + 1) with
        | inl f =>
          rw [e1] at rc
          obtain ⟨p', t', u', D', rc⟩ := rc
          refine ⟨p', t', u', D', ?_⟩
          simp only [e_54_0, e_54_1, e_54_3, e_54_6, e_54_9, e_54_10, e_54_12, e_54_15, e_54_16, e_54_19, e_54_20, e_54_21, e_54_22, e_54_23, e_54_24, e_54_25, e_54_28, e_54_31, e_54_32, e_54_35, e_54_38, e_54_41, e_54_42, e_54_45, e_54_46, e_54_47, e_54_48, e_54_50, e_54_53, e_54_56, e_54_57, e_54_59, e_54_62, e_54_63, e_54_66, e_54_67, e_54_68, e_54_69, e_54_70, e_54_71, e_54_72, e_54_75, e_54_78, e_54_79, e_54_80, e_54_81, e_54_83, e_54_86, e_54_89, e_54_90, e_54_93, e_54_96, e_54_97, e_54_100, e_54_101, e_54_103, e_54_104, e_54_107, e_54_110, e_54_111, e_54_112, e_54_113, e_54_115, e_54_118, e_54_121, e_54_122, e_54_123, e_54_126, e_54_129, e_54_130, e_54_133, e_54_136, e_54_139, e_54_140, e_54_143, e_54_144, e_54_145, e_54_146, e_54_148, e_54_151, e_54_154, e_54_155, e_54_156, e_54_159, e_54_162, e_54_163, e_54_166, e_54_169, e_54_172, e_54_173, e_54_176, e_54_177, e_54_178, e_54_179, e_54_182, Option.bind_some, Option.bind_none, m_kt, m_kn, Option.toList_some, Option.toList_none, List.nil_append, List.cons_append, List.append_nil, ltn, ite_not, ↓reduceIte, true_or, or_true, nP1, oI_s, oI_n, bI_f, bI_t, i1_0, i0_0, Bool.false_eq_true, not_true_eq_false, not_false_eq_true, LtI Z, LtW O (e' + 3) Z hp' xno l_not, z1, LtS O (e' + 7) Z sp, z2', sb_sb, c6, LaI Z, d6, rc, z01]
        | inr x =>
          rw [e1] at rc
          obtain ⟨t1, rc⟩ := rc
          obtain ⟨x1, x2, x3, -⟩ := cnS_ok G _ x (by omega) e1
          have sx := sb_le (B := B) x2
          simp only [sbd_r]
          cases z3 : sg B l x.1 41
          · refine ⟨sb B l x.1, t1, u + x.2.length, wrC D u x.2, ?_⟩
            simp only [e_54_0, e_54_1, e_54_3, e_54_6, e_54_9, e_54_10, e_54_12, e_54_15, e_54_16, e_54_19, e_54_20, e_54_21, e_54_22, e_54_23, e_54_24, e_54_25, e_54_28, e_54_31, e_54_32, e_54_35, e_54_38, e_54_41, e_54_42, e_54_45, e_54_46, e_54_47, e_54_48, e_54_50, e_54_53, e_54_56, e_54_57, e_54_59, e_54_62, e_54_63, e_54_66, e_54_67, e_54_68, e_54_69, e_54_70, e_54_71, e_54_72, e_54_75, e_54_78, e_54_79, e_54_80, e_54_81, e_54_83, e_54_86, e_54_89, e_54_90, e_54_93, e_54_96, e_54_97, e_54_100, e_54_101, e_54_103, e_54_104, e_54_107, e_54_110, e_54_111, e_54_112, e_54_113, e_54_115, e_54_118, e_54_121, e_54_122, e_54_123, e_54_126, e_54_129, e_54_130, e_54_133, e_54_136, e_54_139, e_54_140, e_54_143, e_54_144, e_54_145, e_54_146, e_54_148, e_54_151, e_54_154, e_54_155, e_54_156, e_54_159, e_54_162, e_54_163, e_54_166, e_54_169, e_54_172, e_54_173, e_54_176, e_54_177, e_54_178, e_54_179, e_54_182, Option.bind_some, Option.bind_none, m_kt, m_kn, Option.toList_some, Option.toList_none, List.nil_append, List.cons_append, List.append_nil, ltn, ite_not, ↓reduceIte, true_or, or_true, nP1, oI_s, oI_n, bI_f, bI_t, i1_0, i0_0, Bool.false_eq_true, not_true_eq_false, not_false_eq_true, LtI Z, LtW O (e' + 3) Z hp' xno l_not, z1, LtS O (e' + 7) Z sp, z2', sb_sb, c6, LaI Z, d6, rc, LtS O (e' + 7) Z x2, z3, LrN O (e' + 7) Z sx, z01]
          · refine ⟨nI (sb B l x.1), ?_⟩
            simp only [e_54_0, e_54_1, e_54_3, e_54_6, e_54_9, e_54_10, e_54_12, e_54_15, e_54_16, e_54_19, e_54_20, e_54_21, e_54_22, e_54_23, e_54_24, e_54_25, e_54_28, e_54_31, e_54_32, e_54_35, e_54_38, e_54_41, e_54_42, e_54_45, e_54_46, e_54_47, e_54_48, e_54_50, e_54_53, e_54_56, e_54_57, e_54_59, e_54_62, e_54_63, e_54_66, e_54_67, e_54_68, e_54_69, e_54_70, e_54_71, e_54_72, e_54_75, e_54_78, e_54_79, e_54_80, e_54_81, e_54_83, e_54_86, e_54_89, e_54_90, e_54_93, e_54_96, e_54_97, e_54_100, e_54_101, e_54_103, e_54_104, e_54_107, e_54_110, e_54_111, e_54_112, e_54_113, e_54_115, e_54_118, e_54_121, e_54_122, e_54_123, e_54_126, e_54_129, e_54_130, e_54_133, e_54_136, e_54_139, e_54_140, e_54_143, e_54_144, e_54_145, e_54_146, e_54_148, e_54_151, e_54_154, e_54_155, e_54_156, e_54_159, e_54_162, e_54_163, e_54_166, e_54_169, e_54_172, e_54_173, e_54_176, e_54_177, e_54_178, e_54_179, e_54_182, Option.bind_some, Option.bind_none, m_kt, m_kn, Option.toList_some, Option.toList_none, List.nil_append, List.cons_append, List.append_nil, ltn, ite_not, ↓reduceIte, true_or, or_true, nP1, oI_s, oI_n, bI_f, bI_t, i1_0, i0_0, Bool.false_eq_true, not_true_eq_false, not_false_eq_true, LtI Z, LtW O (e' + 3) Z hp' xno l_not, z1, LtS O (e' + 7) Z sp, z2', sb_sb, c6, LaI Z, d6, rc, LtS O (e' + 7) Z x2, z3, o01]
    · have wl := (wd_le l_not z1).2
      rw [show w_not.length = 3 from rfl] at wl
      have ra := ia (sb B l p + 3) u D (nI (sb B l p)) wl (by omega)
      simp only [↓reduceIte]
      cases e1 : lev B l r (sb B l p + 3) with
      | inl f =>
        rw [e1] at ra
        obtain ⟨p', t', u', D', ra⟩ := ra
        refine ⟨p', t', u', D', ?_⟩
        simp only [e_54_0, e_54_1, e_54_3, e_54_6, e_54_9, e_54_10, e_54_12, e_54_15, e_54_16, e_54_19, e_54_20, e_54_21, e_54_22, e_54_23, e_54_24, e_54_25, e_54_28, e_54_31, e_54_32, e_54_35, e_54_38, e_54_41, e_54_42, e_54_45, e_54_46, e_54_47, e_54_48, e_54_50, e_54_53, e_54_56, e_54_57, e_54_59, e_54_62, e_54_63, e_54_66, e_54_67, e_54_68, e_54_69, e_54_70, e_54_71, e_54_72, e_54_75, e_54_78, e_54_79, e_54_80, e_54_81, e_54_83, e_54_86, e_54_89, e_54_90, e_54_93, e_54_96, e_54_97, e_54_100, e_54_101, e_54_103, e_54_104, e_54_107, e_54_110, e_54_111, e_54_112, e_54_113, e_54_115, e_54_118, e_54_121, e_54_122, e_54_123, e_54_126, e_54_129, e_54_130, e_54_133, e_54_136, e_54_139, e_54_140, e_54_143, e_54_144, e_54_145, e_54_146, e_54_148, e_54_151, e_54_154, e_54_155, e_54_156, e_54_159, e_54_162, e_54_163, e_54_166, e_54_169, e_54_172, e_54_173, e_54_176, e_54_177, e_54_178, e_54_179, e_54_182, Option.bind_some, Option.bind_none, m_kt, m_kn, Option.toList_some, Option.toList_none, List.nil_append, List.cons_append, List.append_nil, ltn, ite_not, ↓reduceIte, true_or, or_true, nP1, oI_s, oI_n, bI_f, bI_t, i1_0, i0_0, Bool.false_eq_true, not_true_eq_false, not_false_eq_true, LtI Z, LtW O (e' + 3) Z hp' xno l_not, z1, (show w_not.length = 3 from rfl), c6, LaI Z, d6, ra, z01]
      | inr x =>
        rw [e1] at ra
        obtain ⟨t1, ra⟩ := ra
        obtain ⟨x1, x2, x3, -⟩ := G _ x wl e1
        refine ⟨t1, ?_⟩
        simp only [wrC_app, List.length_append, List.length_cons, List.length_nil, Nat.zero_add, ← Nat.add_assoc, wrC]
        simp only [e_54_0, e_54_1, e_54_3, e_54_6, e_54_9, e_54_10, e_54_12, e_54_15, e_54_16, e_54_19, e_54_20, e_54_21, e_54_22, e_54_23, e_54_24, e_54_25, e_54_28, e_54_31, e_54_32, e_54_35, e_54_38, e_54_41, e_54_42, e_54_45, e_54_46, e_54_47, e_54_48, e_54_50, e_54_53, e_54_56, e_54_57, e_54_59, e_54_62, e_54_63, e_54_66, e_54_67, e_54_68, e_54_69, e_54_70, e_54_71, e_54_72, e_54_75, e_54_78, e_54_79, e_54_80, e_54_81, e_54_83, e_54_86, e_54_89, e_54_90, e_54_93, e_54_96, e_54_97, e_54_100, e_54_101, e_54_103, e_54_104, e_54_107, e_54_110, e_54_111, e_54_112, e_54_113, e_54_115, e_54_118, e_54_121, e_54_122, e_54_123, e_54_126, e_54_129, e_54_130, e_54_133, e_54_136, e_54_139, e_54_140, e_54_143, e_54_144, e_54_145, e_54_146, e_54_148, e_54_151, e_54_154, e_54_155, e_54_156, e_54_159, e_54_162, e_54_163, e_54_166, e_54_169, e_54_172, e_54_173, e_54_176, e_54_177, e_54_178, e_54_179, e_54_182, Option.bind_some, Option.bind_none, m_kt, m_kn, Option.toList_some, Option.toList_none, List.nil_append, List.cons_append, List.append_nil, ltn, ite_not, ↓reduceIte, true_or, or_true, nP1, oI_s, oI_n, bI_f, bI_t, i1_0, i0_0, Bool.false_eq_true, not_true_eq_false, not_false_eq_true, LtI Z, LtW O (e' + 3) Z hp' xno l_not, z1, (show w_not.length = 3 from rfl), c6, LaI Z, d6, ra, keep_ev O (e' + 8) Z (show u + x.2.length < 400 by omega), o01, wrC, (show cc 11 0 = 2005 from rfl)]
end LawR2
