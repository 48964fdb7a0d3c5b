/-! The class reads a text of the city -/
def TZ (a b : Nat) : Prop := b = 49 ∨ CB a b
def LR (r : Option mR) (h : mH) (l a : Nat) (s : Nat ⊕ (WD × Nat)) : Prop := match s with
  | .inl f => ∃ h' p' t', r = some (.inl (some (.int (0))), h') ∧ h'.1[49]? = some (oT (nI l) p' t' (nI f)) ∧ (∃ V, CA h' a V) ∧ out (TZ a) h h'
  | .inr x => ∃ h' t', r = some (.inl (some (.int (1))), h') ∧ h'.1[49]? = some (oT (nI l) (nI x.2) t' (-1)) ∧ CA h' a x.1 ∧ out (TZ a) h h'
section CityC
variable {h : mH} {l p a : Nat} {t : Int32} {B : Nat → Int32} {W : WD}
theorem hp_out (q : Nat) (t' w' : Int32) : out (TZ a) h (hp h l q t' w') := out.st h _ (.inl rfl)
theorem CA_hp (H : CA h a W) (ha : a < 28) (q : Nat) (t' w' : Int32) : CA (hp h l q t' w') a W := H.out (A := fun b => b = 49) (out.st h _ rfl) (fun b hb => by omega)
theorem nm_num {x : Int32 × Nat} {lo hi : Int32} (e : num B l p lo hi = some x) (h0 : 0 ≤ lo.toInt) : (x.1 = -1) = False ∧ x.2 ≤ l ∧ p < x.2 := by
  obtain ⟨a1, a2, a3, a4, j, hj, e⟩ := num_some (v := x.1) (p' := x.2) e
  have := sb_ge B l p
  exact ⟨by rw [e]; exact nm1 (by omega), a2, by omega⟩
theorem readPane_ev (O : mO) (d : Nat) (K : h.1[49]? = some (oT (nI l) (nI p) t (-1))) (e50 : h.1[50]? = some (aB 400 B)) (hl : l ≤ 400) (hpl : p ≤ l) (H : CA h a W) (R : rng W) (ha : a < 28) : (pnS B l W p).elim (fun f => ∃ q, ev O (d + 2) 22 0 [.ref 49, .ref a, mJ, mJ] [] h = some (.inl (some (.int (-1))), hp h l q t (nI f))) (fun x => ev O (d + 2) 22 0 [.ref 49, .ref a, mJ, mJ] [] h = some (.inl (some (.int (nI x.1))), hp h l x.2 t (-1))) := by
  have hw := R.1.1.2
  have hg := R.1.2.1.2
  unfold pnS nmS
  cases e1 : num B l p 0 (nI (wN W) - 1) with
  | none =>
    simp only [Option.elim_none, sbd_l, Sum.elim_inl]
    refine ⟨sb B l p, ?_⟩
    simp only [e_22_0, e_22_1, e_22_2, e_22_3, e_22_6, e_22_7, e_22_8, e_22_11, e_22_12, e_22_13, e_22_14, e_22_17, e_22_18, e_22_19, e_22_20, e_22_21, e_22_22, e_22_25, e_22_26, e_22_27, e_22_30, e_22_31, e_22_32, e_22_33, e_22_36, e_22_37, e_22_40, e_22_41, e_22_44, e_22_45, e_22_46, e_22_47, e_22_48, Option.bind_some, Option.bind_none, m_kt, m_kn, Option.toList_some, Option.toList_none, List.nil_append, List.cons_append, List.append_nil, ltn, ite_not, ↓reduceIte, true_or, or_true, nP1, oI_s, oI_n, bI_f, bI_t, i1_0, i0_0, Bool.false_eq_true, not_true_eq_false, not_false_eq_true, gC0 H, iscT K, takeNumber_ev O d K e50 hl hpl, e1, Option.elim_none]
  | some x =>
    obtain ⟨x1, x2, x3⟩ := nm_num e1 (by decide)
    have K1 := hp_at K x.2 t (-1)
    have E1 := hp_50 (l := l) e50 x.2 t (-1)
    have H1 := CA_hp (l := l) H ha x.2 t (-1)
    simp only [Option.elim_some, sbd_r]
    cases e2 : num B l x.2 0 (nI (gN W) - 1) with
    | none =>
      simp only [Option.elim_none, sbd_l, Sum.elim_inl]
      refine ⟨sb B l x.2, ?_⟩
      simp only [e_22_0, e_22_1, e_22_2, e_22_3, e_22_6, e_22_7, e_22_8, e_22_11, e_22_12, e_22_13, e_22_14, e_22_17, e_22_18, e_22_19, e_22_20, e_22_21, e_22_22, e_22_25, e_22_26, e_22_27, e_22_30, e_22_31, e_22_32, e_22_33, e_22_36, e_22_37, e_22_40, e_22_41, e_22_44, e_22_45, e_22_46, e_22_47, e_22_48, Option.bind_some, Option.bind_none, m_kt, m_kn, Option.toList_some, Option.toList_none, List.nil_append, List.cons_append, List.append_nil, ltn, ite_not, ↓reduceIte, true_or, or_true, nP1, oI_s, oI_n, bI_f, bI_t, i1_0, i0_0, Bool.false_eq_true, not_true_eq_false, not_false_eq_true, gC0 H, iscT K, takeNumber_ev O d K e50 hl hpl, e1, Option.elim_some, x1, gC1 H1, iscT K1, takeNumber_ev O d K1 E1 hl x2, e2, Option.elim_none, hp_hp]
    | some y =>
      obtain ⟨y1, y2, y3⟩ := nm_num e2 (by decide)
      have K2 := hp_at K y.2 t (-1)
      have H2 := CA_hp (l := l) H ha y.2 t (-1)
      have q1 := nmS_ix (p := p) (x := x) (n := wN W) (by omega) (by unfold nmS; rw [e1]; rfl)
      have q2 := nmS_ix (p := x.2) (x := y) (n := gN W) (by omega) (by unfold nmS; rw [e2]; rfl)
      have ee : nI (wN W) * y.1 + x.1 = nI (wN W * y.1.toNatClampNeg + x.1.toNatClampNeg) := by
        rw [← nA, ← pk_mul, ← q1.2.2.1, ← q2.2.2.1]
      simp only [Option.elim_some, sbd_r, Sum.elim_inr]
      simp only [e_22_0, e_22_1, e_22_2, e_22_3, e_22_6, e_22_7, e_22_8, e_22_11, e_22_12, e_22_13, e_22_14, e_22_17, e_22_18, e_22_19, e_22_20, e_22_21, e_22_22, e_22_25, e_22_26, e_22_27, e_22_30, e_22_31, e_22_32, e_22_33, e_22_36, e_22_37, e_22_40, e_22_41, e_22_44, e_22_45, e_22_46, e_22_47, e_22_48, Option.bind_some, Option.bind_none, m_kt, m_kn, Option.toList_some, Option.toList_none, List.nil_append, List.cons_append, List.append_nil, ltn, ite_not, ↓reduceIte, true_or, or_true, nP1, oI_s, oI_n, bI_f, bI_t, i1_0, i0_0, Bool.false_eq_true, not_true_eq_false, not_false_eq_true, gC0 H, iscT K, takeNumber_ev O d K e50 hl hpl, e1, Option.elim_some, x1, gC1 H1, iscT K1, takeNumber_ev O d K1 E1 hl x2, e2, hp_hp, y1, gC0 H2, ee]
/-- one pane's number is told -/
theorem readPart_ev (O : mO) (d : Nat) (K : h.1[49]? = some (oT (nI l) (nI p) t (-1))) (e50 : h.1[50]? = some (aB 400 B)) (hl : l ≤ 400) (hpl : p ≤ l) (H : CA h a W) (R : rng W) (ha : a < 28) {k : Nat} (hk : k < 6) (lo hi : Int32) (h0 : 0 ≤ lo.toInt) : LR (ev O (d + 3) 19 0 [.ref 49, .ref a, .ref (a + 1 + k), .int lo, .int hi, mJ, mJ] [] h) h l a (prS B l W k lo hi 1 p) := by
  have rp := readPane_ev O d K e50 hl hpl H R ha
  have one : ∀ v : Int32, (1 : Int32) * v = v := fun v => Int32.one_mul v
  unfold prS
  cases e1 : pnS B l W p with
  | inl f =>
    rw [e1] at rp
    obtain ⟨q, rp⟩ := rp
    refine ⟨hp h l q t (nI f), nI q, t, ?_, hp_at K _ _ _, ⟨W, CA_hp H ha _ _ _⟩, hp_out _ _ _⟩
    simp only [e_19_0, e_19_1, e_19_2, e_19_5, e_19_7, e_19_9, e_19_10, e_19_13, e_19_14, e_19_15, e_19_16, e_19_17, e_19_19, e_19_22, e_19_24, e_19_26, e_19_27, e_19_30, e_19_31, e_19_32, e_19_33, e_19_35, e_19_37, e_19_38, e_19_39, Option.bind_some, Option.bind_none, m_kt, m_kn, Option.toList_some, Option.toList_none, List.nil_append, List.cons_append, List.append_nil, ltn, ite_not, ↓reduceIte, true_or, or_true, nP1, oI_s, oI_n, bI_f, bI_t, i1_0, i0_0, Bool.false_eq_true, not_true_eq_false, not_false_eq_true, rp]
  | inr x =>
    rw [e1] at rp
    have rp : ev O (d + 2) 22 0 [.ref 49, .ref a, mJ, mJ] [] h = some (.inl (some (.int (nI x.1))), hp h l x.2 t (-1)) := rp
    obtain ⟨x2, x3, x4⟩ := pnS_ok R e1
    have hN := pN_le R
    have K1 := hp_at K x.2 t (-1)
    have E1 := hp_50 (l := l) e50 x.2 t (-1)
    have n1 := nm1 (n := x.1) (by omega)
    unfold nmS
    simp only [sbd_r]
    cases e2 : num B l x.2 lo hi with
    | none =>
      refine ⟨hp h l (sb B l x.2) t (nI (sb B l x.2)), nI (sb B l x.2), t, ?_, hp_at K _ _ _, ⟨W, CA_hp H ha _ _ _⟩, hp_out _ _ _⟩
      simp only [e_19_0, e_19_1, e_19_2, e_19_5, e_19_7, e_19_9, e_19_10, e_19_13, e_19_14, e_19_15, e_19_16, e_19_17, e_19_19, e_19_22, e_19_24, e_19_26, e_19_27, e_19_30, e_19_31, e_19_32, e_19_33, e_19_35, e_19_37, e_19_38, e_19_39, Option.bind_some, Option.bind_none, m_kt, m_kn, Option.toList_some, Option.toList_none, List.nil_append, List.cons_append, List.append_nil, ltn, ite_not, ↓reduceIte, true_or, or_true, nP1, oI_s, oI_n, bI_f, bI_t, i1_0, i0_0, Bool.false_eq_true, not_true_eq_false, not_false_eq_true, rp, n1, iscT K1, takeNumber_ev O (d + 1) K1 E1 hl x3, e2, Option.elim_none, hp_hp]
    | some y =>
      obtain ⟨y1, y2, y3⟩ := nm_num e2 h0
      obtain ⟨h', s1, s2, s3⟩ := CA_set (CA_hp (l := l) H ha y.2 t (-1)) R (show x.1 < 30 by omega) hk y.1
      simp only [Option.elim_some, sbd_r, one]
      refine ⟨h', t, ?_, (s3.2.2 49 (by unfold CB; omega)).trans (hp_at K _ _ _), s2, (hp_out _ _ _).tr1 (s3.mo (fun b q => .inr q))⟩
      simp only [e_19_0, e_19_1, e_19_2, e_19_5, e_19_7, e_19_9, e_19_10, e_19_13, e_19_14, e_19_15, e_19_16, e_19_17, e_19_19, e_19_22, e_19_24, e_19_26, e_19_27, e_19_30, e_19_31, e_19_32, e_19_33, e_19_35, e_19_37, e_19_38, e_19_39, Option.bind_some, Option.bind_none, m_kt, m_kn, Option.toList_some, Option.toList_none, List.nil_append, List.cons_append, List.append_nil, ltn, ite_not, ↓reduceIte, true_or, or_true, nP1, oI_s, oI_n, bI_f, bI_t, i1_0, i0_0, Bool.false_eq_true, not_true_eq_false, not_false_eq_true, rp, n1, iscT K1, takeNumber_ev O (d + 1) K1 E1 hl x3, e2, Option.elim_some, hp_hp, y1, s1, o01]
theorem readCold_ev (O : mO) (d : Nat) (K : h.1[49]? = some (oT (nI l) (nI p) t (-1))) (e50 : h.1[50]? = some (aB 400 B)) (hl : l ≤ 400) (hpl : p ≤ l) (H : CA h a W) (R : rng W) (ha : a < 28) : LR (ev O (d + 3) 20 0 [.ref 49, .ref a, mJ, mJ] [] h) h l a (prS B l W 1 0 40 (-1) p) := by
  have rp := readPane_ev O d K e50 hl hpl H R ha
  have one : ∀ v : Int32, (-1 : Int32) * v = -v := fun v => by rw [Int32.neg_mul, Int32.one_mul]
  unfold prS
  cases e1 : pnS B l W p with
  | inl f =>
    rw [e1] at rp
    obtain ⟨q, rp⟩ := rp
    refine ⟨hp h l q t (nI f), nI q, t, ?_, hp_at K _ _ _, ⟨W, CA_hp H ha _ _ _⟩, hp_out _ _ _⟩
    simp only [e_20_0, e_20_1, e_20_2, e_20_5, e_20_6, e_20_7, e_20_8, e_20_11, e_20_12, e_20_13, e_20_14, e_20_15, e_20_17, e_20_20, e_20_21, e_20_22, e_20_23, e_20_26, e_20_27, e_20_28, e_20_29, e_20_32, e_20_33, e_20_34, e_20_35, e_20_36, e_20_37, Option.bind_some, Option.bind_none, m_kt, m_kn, Option.toList_some, Option.toList_none, List.nil_append, List.cons_append, List.append_nil, ltn, ite_not, ↓reduceIte, true_or, or_true, nP1, oI_s, oI_n, bI_f, bI_t, i1_0, i0_0, Bool.false_eq_true, not_true_eq_false, not_false_eq_true, rp]
  | inr x =>
    rw [e1] at rp
    have rp : ev O (d + 2) 22 0 [.ref 49, .ref a, mJ, mJ] [] h = some (.inl (some (.int (nI x.1))), hp h l x.2 t (-1)) := rp
    obtain ⟨x2, x3, x4⟩ := pnS_ok R e1
    have hN := pN_le R
    have K1 := hp_at K x.2 t (-1)
    have E1 := hp_50 (l := l) e50 x.2 t (-1)
    have n1 := nm1 (n := x.1) (by omega)
    unfold nmS
    simp only [sbd_r]
    cases e2 : num B l x.2 0 40 with
    | none =>
      refine ⟨hp h l (sb B l x.2) t (nI (sb B l x.2)), nI (sb B l x.2), t, ?_, hp_at K _ _ _, ⟨W, CA_hp H ha _ _ _⟩, hp_out _ _ _⟩
      simp only [e_20_0, e_20_1, e_20_2, e_20_5, e_20_6, e_20_7, e_20_8, e_20_11, e_20_12, e_20_13, e_20_14, e_20_15, e_20_17, e_20_20, e_20_21, e_20_22, e_20_23, e_20_26, e_20_27, e_20_28, e_20_29, e_20_32, e_20_33, e_20_34, e_20_35, e_20_36, e_20_37, Option.bind_some, Option.bind_none, m_kt, m_kn, Option.toList_some, Option.toList_none, List.nil_append, List.cons_append, List.append_nil, ltn, ite_not, ↓reduceIte, true_or, or_true, nP1, oI_s, oI_n, bI_f, bI_t, i1_0, i0_0, Bool.false_eq_true, not_true_eq_false, not_false_eq_true, rp, n1, iscT K1, takeNumber_ev O (d + 1) K1 E1 hl x3, e2, Option.elim_none, hp_hp]
    | some y =>
      obtain ⟨y1, y2, y3⟩ := nm_num e2 (by decide)
      have H1 := CA_hp (l := l) H ha y.2 t (-1)
      obtain ⟨h', s1, s2, s3⟩ := CA_set H1 R (show x.1 < 30 by omega) (show 1 < 6 by omega) (-y.1)
      simp only [Option.elim_some, sbd_r, one]
      refine ⟨h', t, ?_, (s3.2.2 49 (by unfold CB; omega)).trans (hp_at K _ _ _), s2, (hp_out _ _ _).tr1 (s3.mo (fun b q => .inr q))⟩
      simp only [e_20_0, e_20_1, e_20_2, e_20_5, e_20_6, e_20_7, e_20_8, e_20_11, e_20_12, e_20_13, e_20_14, e_20_15, e_20_17, e_20_20, e_20_21, e_20_22, e_20_23, e_20_26, e_20_27, e_20_28, e_20_29, e_20_32, e_20_33, e_20_34, e_20_35, e_20_36, e_20_37, Option.bind_some, Option.bind_none, m_kt, m_kn, Option.toList_some, Option.toList_none, List.nil_append, List.cons_append, List.append_nil, ltn, ite_not, ↓reduceIte, true_or, or_true, nP1, oI_s, oI_n, bI_f, bI_t, i1_0, i0_0, Bool.false_eq_true, not_true_eq_false, not_false_eq_true, rp, n1, iscT K1, takeNumber_ev O (d + 1) K1 E1 hl x3, e2, Option.elim_some, hp_hp, y1, gC7 H1, s1, o01]
end CityC
