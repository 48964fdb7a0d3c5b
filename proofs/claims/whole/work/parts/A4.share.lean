/-! Who pays for a pane -/
def onB (W : WD) (p : Nat) (o : Int32) : Bool := decide (W (7 + 6 * p + 4) = o)
def gvF (W : WD) (p : Nat) (o : Int32) : Nat → Nat → Nat := fun k s => s + (bes (wN W) (gN W) p k).elim 0 (fun q => if onB W q o = true then 25 else 0)
def gv0 (W : WD) (p : Nat) (o : Int32) : Nat := if onB W p o = true then 50 else 0
def gvN (W : WD) (p : Nat) (o : Nat) : Nat := lp (gvF W p (nI o)) 4 (gv0 W p (nI o))
def alN (w g p : Nat) : Nat := lp (fun k s => s + (bes w g p k).elim 0 (fun _ => 25)) 4 50
theorem gv_b {W : WD} {p : Nat} {o : Int32} : ∀ n, lp (gvF W p o) n (gv0 W p o) ≤ 50 + 25 * n
  | 0 => by rw [lp_0]; unfold gv0; split <;> omega
  | n + 1 => by
    have ih := gv_b (W := W) (p := p) (o := o) n
    rw [lp_s]
    have : ∀ x, gvF W p o n x ≤ x + 25 := fun x => by
      unfold gvF
      cases bes (wN W) (gN W) p n with
      | none => simp
      | some q => simp only [Option.elim_some]; split <;> omega
    have := this (lp (gvF W p o) n (gv0 W p o))
    omega
theorem gvN_b (W : WD) (p o : Nat) : gvN W p o ≤ 150 := gv_b 4
def alk (w g p : Nat) : Bool := decide (1 ≤ w → p < w * g → (50 : Int32) + 25 * bc (abS w g (shl1 p)) = nI (alN w g p) ∧ 50 ≤ alN w g p ∧ alN w g p ≤ 150)
theorem alk_t : ∀ (w : Fin 7) (g : Fin 6) (p : Fin 30), alk w g p = true := by decide +kernel
theorem al_e {w g p : Nat} (hw : w < 7) (hg : g < 6) (hp : p < 30) (h1 : 1 ≤ w) (h2 : p < w * g) : (50 : Int32) + 25 * bc (abS w g (shl1 p)) = nI (alN w g p) ∧ 50 ≤ alN w g p ∧ alN w g p ≤ 150 := of_decide_eq_true (alk_t ⟨w, hw⟩ ⟨g, hg⟩ ⟨p, hp⟩) h1 h2
/-- what is left when all have paid their part -/
def lfF (W : WD) (p c : Nat) : Nat → Int32 → Int32 := fun o s => s - nI (c * gvN W p o / alN (wN W) (gN W) p)
def lfS (W : WD) (p c : Nat) : Int32 := lp (lfF W p c) 8 (nI c)
def ahN (W : WD) (p n : Nat) : Nat := fb_ct (fun o => decide (0 < gvN W p o)) n
def shaV (W : WD) (p o c : Nat) : Int32 := if gvN W p o = 0 then 0 else nI (c * gvN W p o / alN (wN W) (gN W) p) + (if nI (ahN W p o) < lfS W p c then 1 else 0)
theorem lf_b {W : WD} {p c : Nat} (hc : c ≤ 9999) : ∀ n : Nat, n ≤ 8 → -(2000000 * (n : Int)) ≤ (lp (lfF W p c) n (nI c)).toInt ∧ (lp (lfF W p c) n (nI c)).toInt ≤ 9999
  | 0, _ => by rw [lp_0, nI_toInt (by omega)]; omega
  | n + 1, hn => by
    have ih := lf_b (W := W) (p := p) hc n (by omega)
    have g := gvN_b W p n
    have m : c * gvN W p n ≤ 9999 * 150 := Nat.mul_le_mul hc g
    have q : c * gvN W p n / alN (wN W) (gN W) p ≤ c * gvN W p n := Nat.div_le_self _ _
    rw [lp_s, lfF]
    generalize c * gvN W p n / alN (wN W) (gN W) p = Q at *
    rw [fb_subI (by rw [nI_toInt (by omega)]; omega) (by rw [nI_toInt (by omega)]; omega), nI_toInt (by omega)]
    omega
theorem nDiv {x y : Nat} (hx : x < 2 ^ 31) (hy : y < 2 ^ 31) (h0 : 0 < y) : nI x / nI y = nI (x / y) := pk_div hx h0 hy
section ShareC
variable {h : mH} {a : Nat} {W : WD}
theorem given_ev (O : mO) (d : Nat) (H : CA h a W) (R : rng W) {p : Nat} (hp : p < pN W) (o : Nat) : ev O (d + 1) 38 0 [.ref a, .int (nI p), .int (nI o), mJ, mJ, mJ] [] h = some (.inl (some (.int (nI (gvN W p o)))), h) := by
  have hN := pN_le R
  have e := lp_runV (ν := Value) (F := fun k s v => ev O (d + 1) 38 20 [.ref a, .int (nI p), .int (nI o), .int (nI s), .int (nI k), v] [] h) (f := gvF W p (nI o)) (n := 4) (fun k s v hk => by
    have h3 : ¬ (4 : Int32) ≤ nI k := nI_ge (b := 4) hk (by omega)
    rw [e_38_20]
    unfold gvF
    cases e : bes (wN W) (gN W) p k with
    | none =>
      simp only [e_38_0, e_38_1, e_38_4, e_38_5, e_38_6, e_38_7, e_38_10, e_38_12, e_38_15, e_38_16, e_38_17, e_38_18, e_38_22, e_38_23, e_38_26, e_38_27, e_38_28, e_38_30, e_38_33, e_38_35, e_38_37, e_38_38, e_38_41, e_38_42, e_38_45, e_38_47, e_38_48, e_38_49, e_38_52, e_38_55, e_38_58, e_38_61, e_38_62, Option.bind_some, Option.bind_none, m_kt, m_kn, Option.toList_some, Option.toList_none, List.nil_append, List.cons_append, List.append_nil, ltn, ite_not, ↓reduceIte, true_or, or_true, nP1, oI_s, oI_n, bI_f, bI_t, i1_0, i0_0, Bool.false_eq_true, not_true_eq_false, not_false_eq_true, h3, H.isc, beside_ev O d H R hp hk, e, Option.elim_none, Nat.add_zero]
      exact ⟨_, rfl⟩
    | some q =>
      have hq : q < pN W := bes_lt R.1.1.2.1 hp e
      have a25 : nI s + 25 = nI (s + 25) := nI_add s 25
      simp only [Option.elim_some, onB, decide_eq_true_eq]
      by_cases hc : W (7 + 6 * q + 4) = nI o
      · simp only [e_38_0, e_38_1, e_38_4, e_38_5, e_38_6, e_38_7, e_38_10, e_38_12, e_38_15, e_38_16, e_38_17, e_38_18, e_38_22, e_38_23, e_38_26, e_38_27, e_38_28, e_38_30, e_38_33, e_38_35, e_38_37, e_38_38, e_38_41, e_38_42, e_38_45, e_38_47, e_38_48, e_38_49, e_38_52, e_38_55, e_38_58, e_38_61, e_38_62, Option.bind_some, Option.bind_none, m_kt, m_kn, Option.toList_some, Option.toList_none, List.nil_append, List.cons_append, List.append_nil, ltn, ite_not, ↓reduceIte, true_or, or_true, nP1, oI_s, oI_n, bI_f, bI_t, i1_0, i0_0, Bool.false_eq_true, not_true_eq_false, not_false_eq_true, h3, H.isc, beside_ev O d H R hp hk, e, nm1 (show q < 2 ^ 31 by omega), gC10 H, H.t4 (show q < 30 by omega), hc, a25]
        exact ⟨_, rfl⟩
      · simp only [e_38_0, e_38_1, e_38_4, e_38_5, e_38_6, e_38_7, e_38_10, e_38_12, e_38_15, e_38_16, e_38_17, e_38_18, e_38_22, e_38_23, e_38_26, e_38_27, e_38_28, e_38_30, e_38_33, e_38_35, e_38_37, e_38_38, e_38_41, e_38_42, e_38_45, e_38_47, e_38_48, e_38_49, e_38_52, e_38_55, e_38_58, e_38_61, e_38_62, Option.bind_some, Option.bind_none, m_kt, m_kn, Option.toList_some, Option.toList_none, List.nil_append, List.cons_append, List.append_nil, ltn, ite_not, ↓reduceIte, true_or, or_true, nP1, oI_s, oI_n, bI_f, bI_t, i1_0, i0_0, Bool.false_eq_true, not_true_eq_false, not_false_eq_true, h3, H.isc, beside_ev O d H R hp hk, e, nm1 (show q < 2 ^ 31 by omega), gC10 H, H.t4 (show q < 30 by omega), hc, Nat.add_zero]
        exact ⟨_, rfl⟩) (gv0 W p (nI o)) mJ
  obtain ⟨v, e⟩ := e
  simp only [nI_0] at e
  have e0 : ev O (d + 1) 38 0 [.ref a, .int (nI p), .int (nI o), mJ, mJ, mJ] [] h = ev O (d + 1) 38 20 [.ref a, .int (nI p), .int (nI o), .int (nI (gv0 W p (nI o))), .int 0, mJ] [] h := by
    unfold gv0 onB
    simp only [decide_eq_true_eq]
    by_cases hc : W (7 + 6 * p + 4) = nI o <;> simp only [e_38_0, e_38_1, e_38_4, e_38_5, e_38_6, e_38_7, e_38_10, e_38_12, e_38_15, e_38_16, e_38_17, e_38_18, e_38_22, e_38_23, e_38_26, e_38_27, e_38_28, e_38_30, e_38_33, e_38_35, e_38_37, e_38_38, e_38_41, e_38_42, e_38_45, e_38_47, e_38_48, e_38_49, e_38_52, e_38_55, e_38_58, e_38_61, e_38_62, Option.bind_some, Option.bind_none, m_kt, m_kn, Option.toList_some, Option.toList_none, List.nil_append, List.cons_append, List.append_nil, ltn, ite_not, ↓reduceIte, true_or, or_true, nP1, oI_s, oI_n, bI_f, bI_t, i1_0, i0_0, Bool.false_eq_true, not_true_eq_false, not_false_eq_true, nI_0, m1m1, Nat.one_ne_zero, two_ne0, gC10 H, H.t4 (show p < 30 by omega), hc] <;> rfl
  rw [e0, e, e_38_20]
  simp only [e_38_0, e_38_1, e_38_4, e_38_5, e_38_6, e_38_7, e_38_10, e_38_12, e_38_15, e_38_16, e_38_17, e_38_18, e_38_22, e_38_23, e_38_26, e_38_27, e_38_28, e_38_30, e_38_33, e_38_35, e_38_37, e_38_38, e_38_41, e_38_42, e_38_45, e_38_47, e_38_48, e_38_49, e_38_52, e_38_55, e_38_58, e_38_61, e_38_62, Option.bind_some, Option.bind_none, m_kt, m_kn, Option.toList_some, Option.toList_none, List.nil_append, List.cons_append, List.append_nil, ltn, ite_not, ↓reduceIte, true_or, or_true, nP1, oI_s, oI_n, bI_f, bI_t, i1_0, i0_0, Bool.false_eq_true, not_true_eq_false, not_false_eq_true, (show ((4 : Int32) ≤ nI 4) = True by decide)]
  rfl
theorem costOf_ev (O : mO) (d : Nat) (H : CA h a W) (R : rng W) {p o c : Nat} (hp : p < pN W) (ho : o < 8) (hc : c ≤ 9999) : ev O (d + 2) 37 0 [.ref a, .int (nI p), .int (nI o), .int (nI c), mJ, mJ, mJ, mJ, mJ] [] h = some (.inl (some (.int (shaV W p o c))), h) := by
  have hN := pN_le R
  have hw := R.1.1.2
  have hg := R.1.2.1.2
  obtain ⟨al, al1, al2⟩ := al_e (show wN W < 7 by omega) (show gN W < 6 by omega) (show p < 30 by omega) hw.1 hp
  have az : ¬ nI (alN (wN W) (gN W) p) = 0 := nI_ne0 (by omega) (by omega)
  have hmul : ∀ k, c * gvN W p k < 2 ^ 31 := fun k => by
    have : c * gvN W p k ≤ 9999 * 150 := Nat.mul_le_mul hc (gvN_b W p k)
    omega
  have e := lp_runV (ν := Value) (F := fun k (s : Int32 × Nat) v => ev O (d + 2) 37 27 [.ref a, .int (nI p), .int (nI o), .int (nI c), .int (nI (alN (wN W) (gN W) p)), .int s.1, .int (nI s.2), .int (nI k), v] [] h) (f := fun k s => (lfF W p c k s.1, if decide (0 < gvN W p k) = true ∧ k < o then s.2 + 1 else s.2)) (n := 8) (fun k s v hk => by
    have h3 : ¬ (8 : Int32) ≤ nI k := nI_ge (b := 8) hk (by omega)
    have gb := gvN_b W p k
    rw [e_37_27]
    simp only [decide_eq_true_eq]
    unfold lfF
    by_cases c1 : gvN W p k = 0
    · have z0 : (nI (gvN W p k) ≤ 0) = True := by rw [nle0 (by omega)]; exact eq_true c1
      have c2 : ¬ (0 < gvN W p k ∧ k < o) := by omega
      simp only [e_37_0, e_37_2, e_37_4, e_37_5, e_37_6, e_37_7, e_37_8, e_37_11, e_37_14, e_37_15, e_37_16, e_37_18, e_37_19, e_37_21, e_37_22, e_37_24, e_37_25, e_37_29, e_37_31, e_37_34, e_37_35, e_37_36, e_37_38, e_37_41, e_37_43, e_37_45, e_37_46, e_37_48, e_37_49, e_37_51, e_37_52, e_37_53, e_37_55, e_37_57, e_37_60, e_37_62, e_37_63, e_37_66, e_37_69, e_37_72, e_37_75, e_37_76, e_37_77, e_37_78, e_37_81, e_37_83, e_37_85, e_37_88, e_37_89, e_37_90, e_37_91, e_37_93, e_37_94, e_37_96, e_37_97, e_37_99, e_37_101, e_37_104, e_37_105, e_37_108, e_37_109, e_37_110, Option.bind_some, Option.bind_none, m_kt, m_kn, Option.toList_some, Option.toList_none, List.nil_append, List.cons_append, List.append_nil, ltn, ite_not, ↓reduceIte, true_or, or_true, nP1, oI_s, oI_n, bI_f, bI_t, i1_0, i0_0, Bool.false_eq_true, not_true_eq_false, not_false_eq_true, h3, given_ev O d H R hp k, pk_mul, az, nDiv (hmul k) (show alN (wN W) (gN W) p < 2 ^ 31 by omega) (by omega), z0, c2]
      exact ⟨_, rfl⟩
    · have z0 : (nI (gvN W p k) ≤ 0) = False := by rw [nle0 (by omega)]; exact eq_false c1
      by_cases c2 : o ≤ k
      · have c3 : ¬ (0 < gvN W p k ∧ k < o) := by omega
        simp only [e_37_0, e_37_2, e_37_4, e_37_5, e_37_6, e_37_7, e_37_8, e_37_11, e_37_14, e_37_15, e_37_16, e_37_18, e_37_19, e_37_21, e_37_22, e_37_24, e_37_25, e_37_29, e_37_31, e_37_34, e_37_35, e_37_36, e_37_38, e_37_41, e_37_43, e_37_45, e_37_46, e_37_48, e_37_49, e_37_51, e_37_52, e_37_53, e_37_55, e_37_57, e_37_60, e_37_62, e_37_63, e_37_66, e_37_69, e_37_72, e_37_75, e_37_76, e_37_77, e_37_78, e_37_81, e_37_83, e_37_85, e_37_88, e_37_89, e_37_90, e_37_91, e_37_93, e_37_94, e_37_96, e_37_97, e_37_99, e_37_101, e_37_104, e_37_105, e_37_108, e_37_109, e_37_110, Option.bind_some, Option.bind_none, m_kt, m_kn, Option.toList_some, Option.toList_none, List.nil_append, List.cons_append, List.append_nil, ltn, ite_not, ↓reduceIte, true_or, or_true, nP1, oI_s, oI_n, bI_f, bI_t, i1_0, i0_0, Bool.false_eq_true, not_true_eq_false, not_false_eq_true, h3, given_ev O d H R hp k, pk_mul, az, nDiv (hmul k) (show alN (wN W) (gN W) p < 2 ^ 31 by omega) (by omega), z0, nLe (show o < 2 ^ 31 by omega) (show k < 2 ^ 31 by omega), c2, c3]
        exact ⟨_, rfl⟩
      · have c3 : (0 < gvN W p k ∧ k < o) := by omega
        simp only [e_37_0, e_37_2, e_37_4, e_37_5, e_37_6, e_37_7, e_37_8, e_37_11, e_37_14, e_37_15, e_37_16, e_37_18, e_37_19, e_37_21, e_37_22, e_37_24, e_37_25, e_37_29, e_37_31, e_37_34, e_37_35, e_37_36, e_37_38, e_37_41, e_37_43, e_37_45, e_37_46, e_37_48, e_37_49, e_37_51, e_37_52, e_37_53, e_37_55, e_37_57, e_37_60, e_37_62, e_37_63, e_37_66, e_37_69, e_37_72, e_37_75, e_37_76, e_37_77, e_37_78, e_37_81, e_37_83, e_37_85, e_37_88, e_37_89, e_37_90, e_37_91, e_37_93, e_37_94, e_37_96, e_37_97, e_37_99, e_37_101, e_37_104, e_37_105, e_37_108, e_37_109, e_37_110, Option.bind_some, Option.bind_none, m_kt, m_kn, Option.toList_some, Option.toList_none, List.nil_append, List.cons_append, List.append_nil, ltn, ite_not, ↓reduceIte, true_or, or_true, nP1, oI_s, oI_n, bI_f, bI_t, i1_0, i0_0, Bool.false_eq_true, not_true_eq_false, not_false_eq_true, h3, given_ev O d H R hp k, pk_mul, az, nDiv (hmul k) (show alN (wN W) (gN W) p < 2 ^ 31 by omega) (by omega), z0, nLe (show o < 2 ^ 31 by omega) (show k < 2 ^ 31 by omega), c2, c3, and_self]
        exact ⟨_, rfl⟩) (nI c, 0) mJ
  have l1 : ∀ n, lp (fun k (s : Int32 × Nat) => (lfF W p c k s.1, if decide (0 < gvN W p k) = true ∧ k < o then s.2 + 1 else s.2)) n (nI c, 0) = (lp (lfF W p c) n (nI c), ahN W p (min n o)) := by
    intro n
    induction n with
    | zero => simp [lp_0, ahN, fb_ct]
    | succ n ih =>
      rw [lp_s, ih, lp_s]
      simp only [Prod.mk.injEq, true_and]
      by_cases c1 : n < o
      · rw [Nat.min_eq_left (by omega), Nat.min_eq_left (by omega)]
        unfold ahN
        rw [fb_ct_succ]
        by_cases c2 : decide (0 < gvN W p n) = true
        · rw [if_pos ⟨c2, c1⟩, if_pos c2]
        · rw [if_neg (fun q => c2 q.1), if_neg c2]; rfl
      · rw [Nat.min_eq_right (by omega), Nat.min_eq_right (by omega), if_neg (fun q => c1 q.2)]
  obtain ⟨v, e⟩ := e
  rw [l1 8, Nat.min_eq_right (show o ≤ 8 by omega)] at e
  simp only [nI_0] at e
  have gb := gvN_b W p o
  simp only [e_37_0, e_37_2, e_37_4, e_37_5, e_37_6, e_37_7, e_37_8, e_37_11, e_37_14, e_37_15, e_37_16, e_37_18, e_37_19, e_37_21, e_37_22, e_37_24, e_37_25, e_37_29, e_37_31, e_37_34, e_37_35, e_37_36, e_37_38, e_37_41, e_37_43, e_37_45, e_37_46, e_37_48, e_37_49, e_37_51, e_37_52, e_37_53, e_37_55, e_37_57, e_37_60, e_37_62, e_37_63, e_37_66, e_37_69, e_37_72, e_37_75, e_37_76, e_37_77, e_37_78, e_37_81, e_37_83, e_37_85, e_37_88, e_37_89, e_37_90, e_37_91, e_37_93, e_37_94, e_37_96, e_37_97, e_37_99, e_37_101, e_37_104, e_37_105, e_37_108, e_37_109, e_37_110, Option.bind_some, Option.bind_none, m_kt, m_kn, Option.toList_some, Option.toList_none, List.nil_append, List.cons_append, List.append_nil, ltn, ite_not, ↓reduceIte, true_or, or_true, nP1, oI_s, oI_n, bI_f, bI_t, i1_0, i0_0, Bool.false_eq_true, not_true_eq_false, not_false_eq_true, nI_0, m1m1, Nat.one_ne_zero, two_ne0, H.isc, allBeside_ev O (d + 1) H, bitCount_ev, shl_nI, al]
  rw [e, e_37_27]
  unfold shaV
  by_cases c1 : gvN W p o = 0
  · have z0 : (nI (gvN W p o) = 0) = True := by rw [c1]; exact eq_true rfl
    simp only [e_37_0, e_37_2, e_37_4, e_37_5, e_37_6, e_37_7, e_37_8, e_37_11, e_37_14, e_37_15, e_37_16, e_37_18, e_37_19, e_37_21, e_37_22, e_37_24, e_37_25, e_37_29, e_37_31, e_37_34, e_37_35, e_37_36, e_37_38, e_37_41, e_37_43, e_37_45, e_37_46, e_37_48, e_37_49, e_37_51, e_37_52, e_37_53, e_37_55, e_37_57, e_37_60, e_37_62, e_37_63, e_37_66, e_37_69, e_37_72, e_37_75, e_37_76, e_37_77, e_37_78, e_37_81, e_37_83, e_37_85, e_37_88, e_37_89, e_37_90, e_37_91, e_37_93, e_37_94, e_37_96, e_37_97, e_37_99, e_37_101, e_37_104, e_37_105, e_37_108, e_37_109, e_37_110, Option.bind_some, Option.bind_none, m_kt, m_kn, Option.toList_some, Option.toList_none, List.nil_append, List.cons_append, List.append_nil, ltn, ite_not, ↓reduceIte, true_or, or_true, nP1, oI_s, oI_n, bI_f, bI_t, i1_0, i0_0, Bool.false_eq_true, not_true_eq_false, not_false_eq_true, nI_0, m1m1, Nat.one_ne_zero, two_ne0, (show ((8 : Int32) ≤ nI 8) = True by decide), given_ev O d H R hp o, c1]
  · have z0 : (nI (gvN W p o) = 0) = False := eq_false (nI_ne0 (by omega) (by omega))
    have lt : ∀ x y : Int32, (x < y) = ¬ (y ≤ x) := ltn
    have lfe : lp (lfF W p c) 8 (nI c) = lfS W p c := rfl
    by_cases c2 : lfS W p c ≤ nI (ahN W p o) <;> simp only [e_37_0, e_37_2, e_37_4, e_37_5, e_37_6, e_37_7, e_37_8, e_37_11, e_37_14, e_37_15, e_37_16, e_37_18, e_37_19, e_37_21, e_37_22, e_37_24, e_37_25, e_37_29, e_37_31, e_37_34, e_37_35, e_37_36, e_37_38, e_37_41, e_37_43, e_37_45, e_37_46, e_37_48, e_37_49, e_37_51, e_37_52, e_37_53, e_37_55, e_37_57, e_37_60, e_37_62, e_37_63, e_37_66, e_37_69, e_37_72, e_37_75, e_37_76, e_37_77, e_37_78, e_37_81, e_37_83, e_37_85, e_37_88, e_37_89, e_37_90, e_37_91, e_37_93, e_37_94, e_37_96, e_37_97, e_37_99, e_37_101, e_37_104, e_37_105, e_37_108, e_37_109, e_37_110, Option.bind_some, Option.bind_none, m_kt, m_kn, Option.toList_some, Option.toList_none, List.nil_append, List.cons_append, List.append_nil, ltn, ite_not, ↓reduceIte, true_or, or_true, nP1, oI_s, oI_n, bI_f, bI_t, i1_0, i0_0, Bool.false_eq_true, not_true_eq_false, not_false_eq_true, (show ((8 : Int32) ≤ nI 8) = True by decide), given_ev O d H R hp o, z0, pk_mul, az, nDiv (hmul o) (show alN (wN W) (gN W) p < 2 ^ 31 by omega) (by omega), lfe, c2, c1]
end ShareC
def codeSh (W : WD) (x y z : Int32) : Nat := if (nPa W x && inB y 0 7) = true then (if inB z 0 9999 = true then 0 else 2) else 1
def shareV (W : WD) (x y z : Int32) : Int32 := shaV W x.toNatClampNeg y.toNatClampNeg z.toNatClampNeg
theorem Gshare_ev {h : mH} {g : gT} {W : WD} (O : mO) (d : Nat) (C : CG h g W) (x y z : Int32) : GA (ev O (d + 3) 122 0 [.ref 0, .int x, .int y, .int z] [] h) h (if codeSh W x y z = 1 then some 1 else if codeSh W x y z = 2 then some 0 else none) (.int (shareV W x y z)) := by
  obtain ⟨G, H, ga, R, S⟩ := C
  have hN := pN_le R
  unfold codeSh nPa
  cases a1 : inB x 0 (nI (pN W) - 1)
  · simp only [Bool.false_and, Bool.false_eq_true, ↓reduceIte]
    show _ = _
    simp only [e_122_0, e_122_1, e_122_2, e_122_5, e_122_6, e_122_9, e_122_10, e_122_11, e_122_14, e_122_17, e_122_18, e_122_21, e_122_22, e_122_23, e_122_24, e_122_27, Option.bind_some, Option.bind_none, m_kt, m_kn, Option.toList_some, Option.toList_none, List.nil_append, List.cons_append, List.append_nil, ltn, ite_not, ↓reduceIte, true_or, or_true, nP1, oI_s, oI_n, bI_f, bI_t, i1_0, i0_0, Bool.false_eq_true, not_true_eq_false, not_false_eq_true, iscG G, checkPane_ev O _ G H R, checkHour_ev, checkWithin_ev, checkOwner_ev, checkSeer_ev O _ G H R, gG0 G, H.isc, Bool.false_eq_true, a1]
  · cases a2 : inB y 0 7
    · simp only [Bool.and_false, Bool.false_eq_true, ↓reduceIte]
      show _ = _
      simp only [e_122_0, e_122_1, e_122_2, e_122_5, e_122_6, e_122_9, e_122_10, e_122_11, e_122_14, e_122_17, e_122_18, e_122_21, e_122_22, e_122_23, e_122_24, e_122_27, Option.bind_some, Option.bind_none, m_kt, m_kn, Option.toList_some, Option.toList_none, List.nil_append, List.cons_append, List.append_nil, ltn, ite_not, ↓reduceIte, true_or, or_true, nP1, oI_s, oI_n, bI_f, bI_t, i1_0, i0_0, Bool.false_eq_true, not_true_eq_false, not_false_eq_true, iscG G, checkPane_ev O _ G H R, checkHour_ev, checkWithin_ev, checkOwner_ev, checkSeer_ev O _ G H R, gG0 G, H.isc, Bool.false_eq_true, a1, a2]
    · cases a3 : inB z 0 9999
      · simp only [Bool.and_true, Bool.false_eq_true, ↓reduceIte]
        show _ = _
        simp only [e_122_0, e_122_1, e_122_2, e_122_5, e_122_6, e_122_9, e_122_10, e_122_11, e_122_14, e_122_17, e_122_18, e_122_21, e_122_22, e_122_23, e_122_24, e_122_27, Option.bind_some, Option.bind_none, m_kt, m_kn, Option.toList_some, Option.toList_none, List.nil_append, List.cons_append, List.append_nil, ltn, ite_not, ↓reduceIte, true_or, or_true, nP1, oI_s, oI_n, bI_f, bI_t, i1_0, i0_0, Bool.false_eq_true, not_true_eq_false, not_false_eq_true, iscG G, checkPane_ev O _ G H R, checkHour_ev, checkWithin_ev, checkOwner_ev, checkSeer_ev O _ G H R, gG0 G, H.isc, Bool.false_eq_true, a1, a2, a3]
      · have b1 := a1
        have b2 := a2
        have b3 := a3
        obtain ⟨p, hp, rfl⟩ := inB_ix (by omega) a1
        obtain ⟨o, ho, rfl⟩ := inB_o a2
        obtain ⟨c, hc, rfl⟩ := inB_n (n := 9999) (by omega) a3
        simp only [Bool.and_true, ↓reduceIte]
        refine ⟨h, ?_, sc.rf h⟩
        unfold shareV
        rw [nI_clamp (show p < 2 ^ 31 by omega), nI_clamp (show o < 2 ^ 31 by omega), nI_clamp (show c < 2 ^ 31 by omega)]
        simp only [e_122_0, e_122_1, e_122_2, e_122_5, e_122_6, e_122_9, e_122_10, e_122_11, e_122_14, e_122_17, e_122_18, e_122_21, e_122_22, e_122_23, e_122_24, e_122_27, Option.bind_some, Option.bind_none, m_kt, m_kn, Option.toList_some, Option.toList_none, List.nil_append, List.cons_append, List.append_nil, ltn, ite_not, ↓reduceIte, true_or, or_true, nP1, oI_s, oI_n, bI_f, bI_t, i1_0, i0_0, Bool.false_eq_true, not_true_eq_false, not_false_eq_true, iscG G, checkPane_ev O _ G H R, checkHour_ev, checkWithin_ev, checkOwner_ev, checkSeer_ev O _ G H R, gG0 G, H.isc, Bool.false_eq_true, b1, b2, b3, costOf_ev O d H R hp ho hc]
def hG (h : mH) (f : Nat → Int32) : mH := (h.1.set 76 (aI 8 f), h.2)
def owN (W : WD) (p : Nat) : Nat := (W (7 + 6 * p + 4)).toNatClampNeg
theorem owN_e {W : WD} (R : rng W) {p : Nat} (hp : p < 30) : W (7 + 6 * p + 4) = nI (owN W p) ∧ owN W p ≤ 7 := by
  have h := (rP R hp).2.2.2.2.1
  have b := bd_nI h (by omega)
  unfold bd at h
  exact ⟨b.1, by unfold owN; omega⟩
theorem onB_e {W : WD} (R : rng W) {p o : Nat} (hp : p < 30) (ho : o < 8) : onB W p (nI o) = decide (owN W p = o) := by
  obtain ⟨e, l⟩ := owN_e R hp
  unfold onB
  rw [e]
  simp only [nI_eq (show owN W p < 2 ^ 31 by omega) (show o < 2 ^ 31 by omega)]
section ShareM
variable {h : mH} {m : Nat → Int32} {W : WD}
theorem msh_ev (O : mO) (d : Nat) (H : MS h m W) (R : rng W) {f0 : Nat → Int32} (e76 : h.1[76]? = some (aI 8 f0)) {p o c : Nat} (hp : p < pN W) (ho : o < 8) (hc : c ≤ 9999) : ∃ f, ev O (d + 2) 223 62 [.ref 66, .int (nI p), .int (nI o), .int (nI c), mJ, mJ, mJ, mJ] [] h = some (.inl (some (.int (shaV W p o c))), hG h f) := by
  have hN := pN_le R
  have hw := R.1.1.2
  have hg := R.1.2.1.2
  have hp3 : p < 30 := by omega
  obtain ⟨-, al1, al2⟩ := al_e (show wN W < 7 by omega) (show gN W < 6 by omega) hp3 hw.1 hp
  have az : ¬ nI (alN (wN W) (gN W) p) = 0 := nI_ne0 (by omega) (by omega)
  have hmul : ∀ k, c * gvN W p k < 2 ^ 31 := fun k => by
    have : c * gvN W p k ≤ 9999 * 150 := Nat.mul_le_mul hc (gvN_b W p k)
    omega
  have g : ∀ f, (hG h f).1[76]? = some (aI 8 f) := fun f => hget e76
  have H1 : ∀ f, MS (hG h f) m W := fun f => H.out (A := fun b => b = 76) (out.st h _ rfl) (by decide) (by decide)
  have s : ∀ f k x, k < 8 → m_si (hG h f) 76 (nI k) x = some (hG h (upd f k x)) := fun f k x hk => by
    rw [si_n (g f) hk (by decide)]; unfold hG; rw [List.set_set]
  have h00 : hG h f0 = h := by unfold hG; rw [hset e76]
  have e1 := lp_run (F := fun i f => ev O (d + 2) 223 65 [.ref 66, .int (nI p), .int (nI o), .int (nI c), .int (nI i), mJ, mJ, mJ] [] (hG h f)) (f := fun i f => upd f i 0) (n := 8) (fun i f hi => by
    have h1 : ¬ (8 : Int32) ≤ nI i := nI_ge (b := 8) hi (by omega)
    rw [e_223_65]
    simp only [e_223_0, e_223_1, e_223_2, e_223_5, e_223_6, e_223_7, e_223_8, e_223_11, e_223_14, e_223_15, e_223_16, e_223_18, e_223_21, e_223_24, e_223_25, e_223_28, e_223_29, e_223_30, e_223_33, e_223_36, e_223_37, e_223_38, e_223_39, e_223_42, e_223_45, e_223_48, e_223_49, e_223_52, e_223_53, e_223_54, e_223_57, e_223_60, e_223_61, e_223_62, e_223_63, e_223_67, e_223_69, e_223_72, e_223_73, e_223_76, e_223_78, e_223_79, e_223_80, e_223_83, e_223_86, e_223_87, e_223_90, e_223_91, e_223_92, e_223_93, e_223_96, e_223_98, e_223_99, e_223_101, e_223_103, e_223_104, e_223_106, e_223_108, e_223_109, e_223_112, e_223_113, e_223_114, e_223_116, e_223_119, e_223_121, e_223_123, e_223_126, e_223_129, e_223_130, e_223_133, e_223_134, e_223_136, e_223_137, e_223_140, e_223_141, e_223_142, e_223_144, e_223_145, e_223_146, e_223_149, e_223_152, e_223_155, e_223_156, e_223_158, e_223_159, e_223_161, e_223_163, e_223_165, e_223_168, e_223_170, e_223_171, e_223_172, e_223_175, e_223_177, e_223_178, e_223_179, e_223_181, e_223_182, e_223_183, e_223_185, e_223_188, e_223_191, e_223_192, e_223_193, e_223_196, e_223_197, e_223_198, e_223_199, e_223_201, e_223_202, e_223_204, e_223_205, e_223_207, e_223_209, e_223_210, e_223_213, e_223_215, e_223_216, e_223_219, e_223_221, e_223_222, e_223_225, e_223_226, e_223_229, e_223_230, e_223_231, e_223_233, e_223_236, e_223_239, e_223_241, e_223_242, e_223_245, e_223_246, e_223_247, e_223_250, e_223_252, e_223_255, e_223_256, e_223_259, e_223_260, e_223_261, Option.bind_some, Option.bind_none, m_kt, m_kn, Option.toList_some, Option.toList_none, List.nil_append, List.cons_append, List.append_nil, ltn, ite_not, ↓reduceIte, true_or, or_true, nP1, oI_s, oI_n, bI_f, bI_t, i1_0, i0_0, Bool.false_eq_true, not_true_eq_false, not_false_eq_true, h1, gM20 (H1 f).1, s f i 0 hi]) f0
  obtain ⟨oe, ol⟩ := owN_e R hp3
  have e2 := lp_runJ (ν := (Nat → Int32) × Value × Value) (F := fun k (a : Nat) v => ev O (d + 2) 223 106 [.ref 66, .int (nI p), .int (nI o), .int (nI c), .int (nI a), .int (nI k), v.2.1, v.2.2] [] (hG h v.1)) (f := fun k s => s + (bes (wN W) (gN W) p k).elim 0 (fun _ => 25)) (n := 4) (fun k a v => ∀ q, q < 8 → v.1 q = nI (lp (gvF W p (nI q)) k (gv0 W p (nI q)))) (fun k a v hk J => by
    obtain ⟨f, v1, v2⟩ := v
    have h3 : ¬ (4 : Int32) ≤ nI k := nI_ge (b := 4) hk (by omega)
    simp only at J ⊢
    rw [e_223_106]
    cases e : bes (wN W) (gN W) p k with
    | none =>
      refine ⟨(f, .int (-1), v2), fun q hq => ?_, ?_⟩
      · rw [lp_s, gvF, e]; exact J q hq
      · simp only [e_223_0, e_223_1, e_223_2, e_223_5, e_223_6, e_223_7, e_223_8, e_223_11, e_223_14, e_223_15, e_223_16, e_223_18, e_223_21, e_223_24, e_223_25, e_223_28, e_223_29, e_223_30, e_223_33, e_223_36, e_223_37, e_223_38, e_223_39, e_223_42, e_223_45, e_223_48, e_223_49, e_223_52, e_223_53, e_223_54, e_223_57, e_223_60, e_223_61, e_223_62, e_223_63, e_223_65, e_223_67, e_223_69, e_223_72, e_223_73, e_223_76, e_223_78, e_223_79, e_223_80, e_223_83, e_223_86, e_223_87, e_223_90, e_223_91, e_223_92, e_223_93, e_223_96, e_223_98, e_223_99, e_223_101, e_223_103, e_223_104, e_223_108, e_223_109, e_223_112, e_223_113, e_223_114, e_223_116, e_223_119, e_223_121, e_223_123, e_223_126, e_223_129, e_223_130, e_223_133, e_223_134, e_223_136, e_223_137, e_223_140, e_223_141, e_223_142, e_223_144, e_223_145, e_223_146, e_223_149, e_223_152, e_223_155, e_223_156, e_223_158, e_223_159, e_223_161, e_223_163, e_223_165, e_223_168, e_223_170, e_223_171, e_223_172, e_223_175, e_223_177, e_223_178, e_223_179, e_223_181, e_223_182, e_223_183, e_223_185, e_223_188, e_223_191, e_223_192, e_223_193, e_223_196, e_223_197, e_223_198, e_223_199, e_223_201, e_223_202, e_223_204, e_223_205, e_223_207, e_223_209, e_223_210, e_223_213, e_223_215, e_223_216, e_223_219, e_223_221, e_223_222, e_223_225, e_223_226, e_223_229, e_223_230, e_223_231, e_223_233, e_223_236, e_223_239, e_223_241, e_223_242, e_223_245, e_223_246, e_223_247, e_223_250, e_223_252, e_223_255, e_223_256, e_223_259, e_223_260, e_223_261, Option.bind_some, Option.bind_none, m_kt, m_kn, Option.toList_some, Option.toList_none, List.nil_append, List.cons_append, List.append_nil, ltn, ite_not, ↓reduceIte, true_or, or_true, nP1, oI_s, oI_n, bI_f, bI_t, i1_0, i0_0, Bool.false_eq_true, not_true_eq_false, not_false_eq_true, h3, (H1 f).isc, mbeside_ev O d (H1 f).w R hp hk, e, m1_0, Option.elim_none, Nat.add_zero]
    | some r =>
      have hr : r < pN W := bes_lt R.1.1.2.1 hp e
      obtain ⟨re, rl⟩ := owN_e R (show r < 30 by omega)
      have g1 := ai_n (g f) (show owN W r < 8 by omega) (by decide)
      rw [J _ (by omega)] at g1
      have a25 : ∀ x, nI x + 25 = nI (x + 25) := fun x => nI_add x 25
      refine ⟨(upd f (owN W r) (nI (lp (gvF W p (nI (owN W r))) k (gv0 W p (nI (owN W r))) + 25)), .int (nI r), v2), fun q hq => ?_, ?_⟩
      · rw [lp_s, gvF, e]
        simp only [Option.elim_some]
        rw [onB_e R (show r < 30 by omega) hq]
        by_cases z : q = owN W r
        · subst z; rw [pk_us]; simp
        · rw [pk_un z, J q hq, if_neg (by simp; omega), Nat.add_zero]
      · simp only [e_223_0, e_223_1, e_223_2, e_223_5, e_223_6, e_223_7, e_223_8, e_223_11, e_223_14, e_223_15, e_223_16, e_223_18, e_223_21, e_223_24, e_223_25, e_223_28, e_223_29, e_223_30, e_223_33, e_223_36, e_223_37, e_223_38, e_223_39, e_223_42, e_223_45, e_223_48, e_223_49, e_223_52, e_223_53, e_223_54, e_223_57, e_223_60, e_223_61, e_223_62, e_223_63, e_223_65, e_223_67, e_223_69, e_223_72, e_223_73, e_223_76, e_223_78, e_223_79, e_223_80, e_223_83, e_223_86, e_223_87, e_223_90, e_223_91, e_223_92, e_223_93, e_223_96, e_223_98, e_223_99, e_223_101, e_223_103, e_223_104, e_223_108, e_223_109, e_223_112, e_223_113, e_223_114, e_223_116, e_223_119, e_223_121, e_223_123, e_223_126, e_223_129, e_223_130, e_223_133, e_223_134, e_223_136, e_223_137, e_223_140, e_223_141, e_223_142, e_223_144, e_223_145, e_223_146, e_223_149, e_223_152, e_223_155, e_223_156, e_223_158, e_223_159, e_223_161, e_223_163, e_223_165, e_223_168, e_223_170, e_223_171, e_223_172, e_223_175, e_223_177, e_223_178, e_223_179, e_223_181, e_223_182, e_223_183, e_223_185, e_223_188, e_223_191, e_223_192, e_223_193, e_223_196, e_223_197, e_223_198, e_223_199, e_223_201, e_223_202, e_223_204, e_223_205, e_223_207, e_223_209, e_223_210, e_223_213, e_223_215, e_223_216, e_223_219, e_223_221, e_223_222, e_223_225, e_223_226, e_223_229, e_223_230, e_223_231, e_223_233, e_223_236, e_223_239, e_223_241, e_223_242, e_223_245, e_223_246, e_223_247, e_223_250, e_223_252, e_223_255, e_223_256, e_223_259, e_223_260, e_223_261, Option.bind_some, Option.bind_none, m_kt, m_kn, Option.toList_some, Option.toList_none, List.nil_append, List.cons_append, List.append_nil, ltn, ite_not, ↓reduceIte, true_or, or_true, nP1, oI_s, oI_n, bI_f, bI_t, i1_0, i0_0, Bool.false_eq_true, not_true_eq_false, not_false_eq_true, h3, (H1 f).isc, mbeside_ev O d (H1 f).w R hp hk, e, n0le (show r < 2 ^ 31 by omega), gM20 (H1 f).1, of4_ev O (d + 1) (H1 f).w (show r < 30 by omega), re, g1, a25, s f (owN W r) _ (show owN W r < 8 by omega), Option.elim_some]) 50 (upd (lp (fun i f => upd f i 0) 8 f0) (owN W p) 50, mJ, mJ) (fun q hq => by
      simp only [lp_0]
      unfold gv0
      rw [onB_e R hp3 hq]
      by_cases z : q = owN W p
      · subst z; rw [pk_us]; simp; rfl
      · rw [pk_un z, lp_upd, if_pos hq, if_neg (by simp; omega)]; rfl)
  obtain ⟨⟨f, v1, v2⟩, J, e2⟩ := e2
  have J : ∀ q, q < 8 → f q = nI (gvN W p q) := J
  have gf : ∀ q, q < 8 → m_ai (hG h f) 76 (nI q) = some (nI (gvN W p q)) := fun q hq => by rw [ai_n (g f) hq (by decide), J q hq]
  have e3 := lp_run (F := fun k s => ev O (d + 2) 223 161 [.ref 66, .int (nI p), .int (nI o), .int (nI c), .int (nI (alN (wN W) (gN W) p)), .int s, .int (nI k), v2] [] (hG h f)) (f := lfF W p c) (n := 8) (fun k s hk => by
    have h3 : ¬ (8 : Int32) ≤ nI k := nI_ge (b := 8) hk (by omega)
    rw [e_223_161]
    unfold lfF
    simp only [e_223_0, e_223_1, e_223_2, e_223_5, e_223_6, e_223_7, e_223_8, e_223_11, e_223_14, e_223_15, e_223_16, e_223_18, e_223_21, e_223_24, e_223_25, e_223_28, e_223_29, e_223_30, e_223_33, e_223_36, e_223_37, e_223_38, e_223_39, e_223_42, e_223_45, e_223_48, e_223_49, e_223_52, e_223_53, e_223_54, e_223_57, e_223_60, e_223_61, e_223_62, e_223_63, e_223_65, e_223_67, e_223_69, e_223_72, e_223_73, e_223_76, e_223_78, e_223_79, e_223_80, e_223_83, e_223_86, e_223_87, e_223_90, e_223_91, e_223_92, e_223_93, e_223_96, e_223_98, e_223_99, e_223_101, e_223_103, e_223_104, e_223_106, e_223_108, e_223_109, e_223_112, e_223_113, e_223_114, e_223_116, e_223_119, e_223_121, e_223_123, e_223_126, e_223_129, e_223_130, e_223_133, e_223_134, e_223_136, e_223_137, e_223_140, e_223_141, e_223_142, e_223_144, e_223_145, e_223_146, e_223_149, e_223_152, e_223_155, e_223_156, e_223_158, e_223_159, e_223_163, e_223_165, e_223_168, e_223_170, e_223_171, e_223_172, e_223_175, e_223_177, e_223_178, e_223_179, e_223_181, e_223_182, e_223_183, e_223_185, e_223_188, e_223_191, e_223_192, e_223_193, e_223_196, e_223_197, e_223_198, e_223_199, e_223_201, e_223_202, e_223_204, e_223_205, e_223_207, e_223_209, e_223_210, e_223_213, e_223_215, e_223_216, e_223_219, e_223_221, e_223_222, e_223_225, e_223_226, e_223_229, e_223_230, e_223_231, e_223_233, e_223_236, e_223_239, e_223_241, e_223_242, e_223_245, e_223_246, e_223_247, e_223_250, e_223_252, e_223_255, e_223_256, e_223_259, e_223_260, e_223_261, Option.bind_some, Option.bind_none, m_kt, m_kn, Option.toList_some, Option.toList_none, List.nil_append, List.cons_append, List.append_nil, ltn, ite_not, ↓reduceIte, true_or, or_true, nP1, oI_s, oI_n, bI_f, bI_t, i1_0, i0_0, Bool.false_eq_true, not_true_eq_false, not_false_eq_true, h3, gM20 (H1 f).1, gf k hk, pk_mul, az, nDiv (hmul k) (show alN (wN W) (gN W) p < 2 ^ 31 by omega) (by omega)]) (nI c)
  have e4 := lp_run (F := fun k (_ : Unit) => ev O (d + 2) 223 207 [.ref 66, .int (nI p), .int (nI o), .int (nI c), .int (nI (alN (wN W) (gN W) p)), .int (lfS W p c - nI (ahN W p k)), .int (nI (c * gvN W p o / alN (wN W) (gN W) p)), .int (nI k)] [] (hG h f)) (f := fun _ s => s) (n := o) (fun k s hk => by
    have h3 : ¬ nI o ≤ nI k := nI_ge hk (by omega)
    have gb := gvN_b W p k
    have hs : ∀ x : Nat, lfS W p c - nI x - 1 = lfS W p c - nI (x + 1) := fun x => by
      rw [← nP1, Int32.sub_eq_add_neg, Int32.sub_eq_add_neg, Int32.sub_eq_add_neg, Int32.neg_add, Int32.add_assoc, Int32.sub_eq_add_neg]
    have h0 : ∀ x : Int32, x - 0 = x := Int32.sub_zero
    rw [e_223_207]
    by_cases c1 : gvN W p k = 0
    · have z0 : (nI (gvN W p k) ≤ 0) = True := by rw [nle0 (by omega)]; exact eq_true c1
      have ea : ahN W p (k + 1) = ahN W p k := by unfold ahN; rw [fb_ct_succ, if_neg (by simp; omega)]; rfl
      simp only [e_223_0, e_223_1, e_223_2, e_223_5, e_223_6, e_223_7, e_223_8, e_223_11, e_223_14, e_223_15, e_223_16, e_223_18, e_223_21, e_223_24, e_223_25, e_223_28, e_223_29, e_223_30, e_223_33, e_223_36, e_223_37, e_223_38, e_223_39, e_223_42, e_223_45, e_223_48, e_223_49, e_223_52, e_223_53, e_223_54, e_223_57, e_223_60, e_223_61, e_223_62, e_223_63, e_223_65, e_223_67, e_223_69, e_223_72, e_223_73, e_223_76, e_223_78, e_223_79, e_223_80, e_223_83, e_223_86, e_223_87, e_223_90, e_223_91, e_223_92, e_223_93, e_223_96, e_223_98, e_223_99, e_223_101, e_223_103, e_223_104, e_223_106, e_223_108, e_223_109, e_223_112, e_223_113, e_223_114, e_223_116, e_223_119, e_223_121, e_223_123, e_223_126, e_223_129, e_223_130, e_223_133, e_223_134, e_223_136, e_223_137, e_223_140, e_223_141, e_223_142, e_223_144, e_223_145, e_223_146, e_223_149, e_223_152, e_223_155, e_223_156, e_223_158, e_223_159, e_223_161, e_223_163, e_223_165, e_223_168, e_223_170, e_223_171, e_223_172, e_223_175, e_223_177, e_223_178, e_223_179, e_223_181, e_223_182, e_223_183, e_223_185, e_223_188, e_223_191, e_223_192, e_223_193, e_223_196, e_223_197, e_223_198, e_223_199, e_223_201, e_223_202, e_223_204, e_223_205, e_223_209, e_223_210, e_223_213, e_223_215, e_223_216, e_223_219, e_223_221, e_223_222, e_223_225, e_223_226, e_223_229, e_223_230, e_223_231, e_223_233, e_223_236, e_223_239, e_223_241, e_223_242, e_223_245, e_223_246, e_223_247, e_223_250, e_223_252, e_223_255, e_223_256, e_223_259, e_223_260, e_223_261, Option.bind_some, Option.bind_none, m_kt, m_kn, Option.toList_some, Option.toList_none, List.nil_append, List.cons_append, List.append_nil, ltn, ite_not, ↓reduceIte, true_or, or_true, nP1, oI_s, oI_n, bI_f, bI_t, i1_0, i0_0, Bool.false_eq_true, not_true_eq_false, not_false_eq_true, h3, gM20 (H1 f).1, gf k (show k < 8 by omega), z0, ea, h0]
    · have z0 : (nI (gvN W p k) ≤ 0) = False := by rw [nle0 (by omega)]; exact eq_false c1
      have ea : ahN W p (k + 1) = ahN W p k + 1 := by unfold ahN; rw [fb_ct_succ, if_pos (by simp; omega)]
      simp only [e_223_0, e_223_1, e_223_2, e_223_5, e_223_6, e_223_7, e_223_8, e_223_11, e_223_14, e_223_15, e_223_16, e_223_18, e_223_21, e_223_24, e_223_25, e_223_28, e_223_29, e_223_30, e_223_33, e_223_36, e_223_37, e_223_38, e_223_39, e_223_42, e_223_45, e_223_48, e_223_49, e_223_52, e_223_53, e_223_54, e_223_57, e_223_60, e_223_61, e_223_62, e_223_63, e_223_65, e_223_67, e_223_69, e_223_72, e_223_73, e_223_76, e_223_78, e_223_79, e_223_80, e_223_83, e_223_86, e_223_87, e_223_90, e_223_91, e_223_92, e_223_93, e_223_96, e_223_98, e_223_99, e_223_101, e_223_103, e_223_104, e_223_106, e_223_108, e_223_109, e_223_112, e_223_113, e_223_114, e_223_116, e_223_119, e_223_121, e_223_123, e_223_126, e_223_129, e_223_130, e_223_133, e_223_134, e_223_136, e_223_137, e_223_140, e_223_141, e_223_142, e_223_144, e_223_145, e_223_146, e_223_149, e_223_152, e_223_155, e_223_156, e_223_158, e_223_159, e_223_161, e_223_163, e_223_165, e_223_168, e_223_170, e_223_171, e_223_172, e_223_175, e_223_177, e_223_178, e_223_179, e_223_181, e_223_182, e_223_183, e_223_185, e_223_188, e_223_191, e_223_192, e_223_193, e_223_196, e_223_197, e_223_198, e_223_199, e_223_201, e_223_202, e_223_204, e_223_205, e_223_209, e_223_210, e_223_213, e_223_215, e_223_216, e_223_219, e_223_221, e_223_222, e_223_225, e_223_226, e_223_229, e_223_230, e_223_231, e_223_233, e_223_236, e_223_239, e_223_241, e_223_242, e_223_245, e_223_246, e_223_247, e_223_250, e_223_252, e_223_255, e_223_256, e_223_259, e_223_260, e_223_261, Option.bind_some, Option.bind_none, m_kt, m_kn, Option.toList_some, Option.toList_none, List.nil_append, List.cons_append, List.append_nil, ltn, ite_not, ↓reduceIte, true_or, or_true, nP1, oI_s, oI_n, bI_f, bI_t, i1_0, i0_0, Bool.false_eq_true, not_true_eq_false, not_false_eq_true, h3, gM20 (H1 f).1, gf k (show k < 8 by omega), z0, ea, hs]) ()
  refine ⟨f, ?_⟩
  rw [h00] at e1
  simp only [nI_0] at e1 e2 e3 e4
  have s50 := s (lp (fun i f => upd f i 0) 8 f0) (owN W p) 50 (by omega)
  simp only [e_223_0, e_223_1, e_223_2, e_223_5, e_223_6, e_223_7, e_223_8, e_223_11, e_223_14, e_223_15, e_223_16, e_223_18, e_223_21, e_223_24, e_223_25, e_223_28, e_223_29, e_223_30, e_223_33, e_223_36, e_223_37, e_223_38, e_223_39, e_223_42, e_223_45, e_223_48, e_223_49, e_223_52, e_223_53, e_223_54, e_223_57, e_223_60, e_223_61, e_223_62, e_223_63, e_223_67, e_223_69, e_223_72, e_223_73, e_223_76, e_223_78, e_223_79, e_223_80, e_223_83, e_223_86, e_223_87, e_223_90, e_223_91, e_223_92, e_223_93, e_223_96, e_223_98, e_223_99, e_223_101, e_223_103, e_223_104, e_223_108, e_223_109, e_223_112, e_223_113, e_223_114, e_223_116, e_223_119, e_223_121, e_223_123, e_223_126, e_223_129, e_223_130, e_223_133, e_223_134, e_223_136, e_223_137, e_223_140, e_223_141, e_223_142, e_223_144, e_223_145, e_223_146, e_223_149, e_223_152, e_223_155, e_223_156, e_223_158, e_223_159, e_223_163, e_223_165, e_223_168, e_223_170, e_223_171, e_223_172, e_223_175, e_223_177, e_223_178, e_223_179, e_223_181, e_223_182, e_223_183, e_223_185, e_223_188, e_223_191, e_223_192, e_223_193, e_223_196, e_223_197, e_223_198, e_223_199, e_223_201, e_223_202, e_223_204, e_223_205, e_223_209, e_223_210, e_223_213, e_223_215, e_223_216, e_223_219, e_223_221, e_223_222, e_223_225, e_223_226, e_223_229, e_223_230, e_223_231, e_223_233, e_223_236, e_223_239, e_223_241, e_223_242, e_223_245, e_223_246, e_223_247, e_223_250, e_223_252, e_223_255, e_223_256, e_223_259, e_223_260, e_223_261, Option.bind_some, Option.bind_none, m_kt, m_kn, Option.toList_some, Option.toList_none, List.nil_append, List.cons_append, List.append_nil, ltn, ite_not, ↓reduceIte, true_or, or_true, nP1, oI_s, oI_n, bI_f, bI_t, i1_0, i0_0, Bool.false_eq_true, not_true_eq_false, not_false_eq_true]
  rw [e1, e_223_65]
  simp only [e_223_0, e_223_1, e_223_2, e_223_5, e_223_6, e_223_7, e_223_8, e_223_11, e_223_14, e_223_15, e_223_16, e_223_18, e_223_21, e_223_24, e_223_25, e_223_28, e_223_29, e_223_30, e_223_33, e_223_36, e_223_37, e_223_38, e_223_39, e_223_42, e_223_45, e_223_48, e_223_49, e_223_52, e_223_53, e_223_54, e_223_57, e_223_60, e_223_61, e_223_62, e_223_63, e_223_67, e_223_69, e_223_72, e_223_73, e_223_76, e_223_78, e_223_79, e_223_80, e_223_83, e_223_86, e_223_87, e_223_90, e_223_91, e_223_92, e_223_93, e_223_96, e_223_98, e_223_99, e_223_101, e_223_103, e_223_104, e_223_108, e_223_109, e_223_112, e_223_113, e_223_114, e_223_116, e_223_119, e_223_121, e_223_123, e_223_126, e_223_129, e_223_130, e_223_133, e_223_134, e_223_136, e_223_137, e_223_140, e_223_141, e_223_142, e_223_144, e_223_145, e_223_146, e_223_149, e_223_152, e_223_155, e_223_156, e_223_158, e_223_159, e_223_163, e_223_165, e_223_168, e_223_170, e_223_171, e_223_172, e_223_175, e_223_177, e_223_178, e_223_179, e_223_181, e_223_182, e_223_183, e_223_185, e_223_188, e_223_191, e_223_192, e_223_193, e_223_196, e_223_197, e_223_198, e_223_199, e_223_201, e_223_202, e_223_204, e_223_205, e_223_209, e_223_210, e_223_213, e_223_215, e_223_216, e_223_219, e_223_221, e_223_222, e_223_225, e_223_226, e_223_229, e_223_230, e_223_231, e_223_233, e_223_236, e_223_239, e_223_241, e_223_242, e_223_245, e_223_246, e_223_247, e_223_250, e_223_252, e_223_255, e_223_256, e_223_259, e_223_260, e_223_261, Option.bind_some, Option.bind_none, m_kt, m_kn, Option.toList_some, Option.toList_none, List.nil_append, List.cons_append, List.append_nil, ltn, ite_not, ↓reduceIte, true_or, or_true, nP1, oI_s, oI_n, bI_f, bI_t, i1_0, i0_0, Bool.false_eq_true, not_true_eq_false, not_false_eq_true, (show ((8 : Int32) ≤ nI 8) = True by decide), gM20 (H1 _).1, (H1 _).isc, of4_ev O (d + 1) (H1 _).w hp3, oe, s50]
  refine Eq.trans e2 ?_
  rw [e_223_106]
  simp only [e_223_0, e_223_1, e_223_2, e_223_5, e_223_6, e_223_7, e_223_8, e_223_11, e_223_14, e_223_15, e_223_16, e_223_18, e_223_21, e_223_24, e_223_25, e_223_28, e_223_29, e_223_30, e_223_33, e_223_36, e_223_37, e_223_38, e_223_39, e_223_42, e_223_45, e_223_48, e_223_49, e_223_52, e_223_53, e_223_54, e_223_57, e_223_60, e_223_61, e_223_62, e_223_63, e_223_67, e_223_69, e_223_72, e_223_73, e_223_76, e_223_78, e_223_79, e_223_80, e_223_83, e_223_86, e_223_87, e_223_90, e_223_91, e_223_92, e_223_93, e_223_96, e_223_98, e_223_99, e_223_101, e_223_103, e_223_104, e_223_108, e_223_109, e_223_112, e_223_113, e_223_114, e_223_116, e_223_119, e_223_121, e_223_123, e_223_126, e_223_129, e_223_130, e_223_133, e_223_134, e_223_136, e_223_137, e_223_140, e_223_141, e_223_142, e_223_144, e_223_145, e_223_146, e_223_149, e_223_152, e_223_155, e_223_156, e_223_158, e_223_159, e_223_163, e_223_165, e_223_168, e_223_170, e_223_171, e_223_172, e_223_175, e_223_177, e_223_178, e_223_179, e_223_181, e_223_182, e_223_183, e_223_185, e_223_188, e_223_191, e_223_192, e_223_193, e_223_196, e_223_197, e_223_198, e_223_199, e_223_201, e_223_202, e_223_204, e_223_205, e_223_209, e_223_210, e_223_213, e_223_215, e_223_216, e_223_219, e_223_221, e_223_222, e_223_225, e_223_226, e_223_229, e_223_230, e_223_231, e_223_233, e_223_236, e_223_239, e_223_241, e_223_242, e_223_245, e_223_246, e_223_247, e_223_250, e_223_252, e_223_255, e_223_256, e_223_259, e_223_260, e_223_261, Option.bind_some, Option.bind_none, m_kt, m_kn, Option.toList_some, Option.toList_none, List.nil_append, List.cons_append, List.append_nil, ltn, ite_not, ↓reduceIte, true_or, or_true, nP1, oI_s, oI_n, bI_f, bI_t, i1_0, i0_0, Bool.false_eq_true, not_true_eq_false, not_false_eq_true, (show ((4 : Int32) ≤ nI 4) = True by decide)]
  refine Eq.trans e3 ?_
  rw [e_223_161]
  simp only [e_223_0, e_223_1, e_223_2, e_223_5, e_223_6, e_223_7, e_223_8, e_223_11, e_223_14, e_223_15, e_223_16, e_223_18, e_223_21, e_223_24, e_223_25, e_223_28, e_223_29, e_223_30, e_223_33, e_223_36, e_223_37, e_223_38, e_223_39, e_223_42, e_223_45, e_223_48, e_223_49, e_223_52, e_223_53, e_223_54, e_223_57, e_223_60, e_223_61, e_223_62, e_223_63, e_223_67, e_223_69, e_223_72, e_223_73, e_223_76, e_223_78, e_223_79, e_223_80, e_223_83, e_223_86, e_223_87, e_223_90, e_223_91, e_223_92, e_223_93, e_223_96, e_223_98, e_223_99, e_223_101, e_223_103, e_223_104, e_223_108, e_223_109, e_223_112, e_223_113, e_223_114, e_223_116, e_223_119, e_223_121, e_223_123, e_223_126, e_223_129, e_223_130, e_223_133, e_223_134, e_223_136, e_223_137, e_223_140, e_223_141, e_223_142, e_223_144, e_223_145, e_223_146, e_223_149, e_223_152, e_223_155, e_223_156, e_223_158, e_223_159, e_223_163, e_223_165, e_223_168, e_223_170, e_223_171, e_223_172, e_223_175, e_223_177, e_223_178, e_223_179, e_223_181, e_223_182, e_223_183, e_223_185, e_223_188, e_223_191, e_223_192, e_223_193, e_223_196, e_223_197, e_223_198, e_223_199, e_223_201, e_223_202, e_223_204, e_223_205, e_223_209, e_223_210, e_223_213, e_223_215, e_223_216, e_223_219, e_223_221, e_223_222, e_223_225, e_223_226, e_223_229, e_223_230, e_223_231, e_223_233, e_223_236, e_223_239, e_223_241, e_223_242, e_223_245, e_223_246, e_223_247, e_223_250, e_223_252, e_223_255, e_223_256, e_223_259, e_223_260, e_223_261, Option.bind_some, Option.bind_none, m_kt, m_kn, Option.toList_some, Option.toList_none, List.nil_append, List.cons_append, List.append_nil, ltn, ite_not, ↓reduceIte, true_or, or_true, nP1, oI_s, oI_n, bI_f, bI_t, i1_0, i0_0, Bool.false_eq_true, not_true_eq_false, not_false_eq_true, (show ((8 : Int32) ≤ nI 8) = True by decide), gM20 (H1 f).1, gf o ho, pk_mul, az, nDiv (hmul o) (show alN (wN W) (gN W) p < 2 ^ 31 by omega) (by omega)]
  have ah0 : ahN W p 0 = 0 := rfl
  have s00 : ∀ x : Int32, x - 0 = x := Int32.sub_zero
  have lfe : lp (lfF W p c) 8 (nI c) = lfS W p c := rfl
  simp only [ah0, nI_0, s00] at e4
  rw [lfe]
  refine Eq.trans e4 ?_
  rw [e_223_207]
  have gb := gvN_b W p o
  unfold shaV
  by_cases c1 : gvN W p o = 0
  · have z0 : (nI (gvN W p o) ≤ 0) = True := by rw [nle0 (by omega)]; exact eq_true c1
    simp only [e_223_0, e_223_1, e_223_2, e_223_5, e_223_6, e_223_7, e_223_8, e_223_11, e_223_14, e_223_15, e_223_16, e_223_18, e_223_21, e_223_24, e_223_25, e_223_28, e_223_29, e_223_30, e_223_33, e_223_36, e_223_37, e_223_38, e_223_39, e_223_42, e_223_45, e_223_48, e_223_49, e_223_52, e_223_53, e_223_54, e_223_57, e_223_60, e_223_61, e_223_62, e_223_63, e_223_65, e_223_67, e_223_69, e_223_72, e_223_73, e_223_76, e_223_78, e_223_79, e_223_80, e_223_83, e_223_86, e_223_87, e_223_90, e_223_91, e_223_92, e_223_93, e_223_96, e_223_98, e_223_99, e_223_101, e_223_103, e_223_104, e_223_106, e_223_108, e_223_109, e_223_112, e_223_113, e_223_114, e_223_116, e_223_119, e_223_121, e_223_123, e_223_126, e_223_129, e_223_130, e_223_133, e_223_134, e_223_136, e_223_137, e_223_140, e_223_141, e_223_142, e_223_144, e_223_145, e_223_146, e_223_149, e_223_152, e_223_155, e_223_156, e_223_158, e_223_159, e_223_161, e_223_163, e_223_165, e_223_168, e_223_170, e_223_171, e_223_172, e_223_175, e_223_177, e_223_178, e_223_179, e_223_181, e_223_182, e_223_183, e_223_185, e_223_188, e_223_191, e_223_192, e_223_193, e_223_196, e_223_197, e_223_198, e_223_199, e_223_201, e_223_202, e_223_204, e_223_205, e_223_209, e_223_210, e_223_213, e_223_215, e_223_216, e_223_219, e_223_221, e_223_222, e_223_225, e_223_226, e_223_229, e_223_230, e_223_231, e_223_233, e_223_236, e_223_239, e_223_241, e_223_242, e_223_245, e_223_246, e_223_247, e_223_250, e_223_252, e_223_255, e_223_256, e_223_259, e_223_260, e_223_261, Option.bind_some, Option.bind_none, m_kt, m_kn, Option.toList_some, Option.toList_none, List.nil_append, List.cons_append, List.append_nil, ltn, ite_not, ↓reduceIte, true_or, or_true, nP1, oI_s, oI_n, bI_f, bI_t, i1_0, i0_0, Bool.false_eq_true, not_true_eq_false, not_false_eq_true, Int32.le_refl, gM20 (H1 f).1, gf o ho, z0, c1, Nat.mul_zero, Nat.zero_div, nI_0]
    rfl
  · have z0 : (nI (gvN W p o) ≤ 0) = False := by rw [nle0 (by omega)]; exact eq_false c1
    have lb := lf_b (W := W) (p := p) hc 8 (Nat.le_refl _)
    rw [lfe] at lb
    have ab := fb_ct_le (fun o => decide (0 < gvN W p o)) o
    have ab : ahN W p o ≤ o := ab
    have le : (lfS W p c - nI (ahN W p o) ≤ 0) = (lfS W p c ≤ nI (ahN W p o)) := by
      apply propext
      rw [i_le, i_le, fb_subI (by rw [nI_toInt (by omega)]; omega) (by rw [nI_toInt (by omega)]; omega), nI_toInt (by omega), k0]
      omega
    by_cases c2 : lfS W p c ≤ nI (ahN W p o) <;> simp only [e_223_0, e_223_1, e_223_2, e_223_5, e_223_6, e_223_7, e_223_8, e_223_11, e_223_14, e_223_15, e_223_16, e_223_18, e_223_21, e_223_24, e_223_25, e_223_28, e_223_29, e_223_30, e_223_33, e_223_36, e_223_37, e_223_38, e_223_39, e_223_42, e_223_45, e_223_48, e_223_49, e_223_52, e_223_53, e_223_54, e_223_57, e_223_60, e_223_61, e_223_62, e_223_63, e_223_65, e_223_67, e_223_69, e_223_72, e_223_73, e_223_76, e_223_78, e_223_79, e_223_80, e_223_83, e_223_86, e_223_87, e_223_90, e_223_91, e_223_92, e_223_93, e_223_96, e_223_98, e_223_99, e_223_101, e_223_103, e_223_104, e_223_106, e_223_108, e_223_109, e_223_112, e_223_113, e_223_114, e_223_116, e_223_119, e_223_121, e_223_123, e_223_126, e_223_129, e_223_130, e_223_133, e_223_134, e_223_136, e_223_137, e_223_140, e_223_141, e_223_142, e_223_144, e_223_145, e_223_146, e_223_149, e_223_152, e_223_155, e_223_156, e_223_158, e_223_159, e_223_161, e_223_163, e_223_165, e_223_168, e_223_170, e_223_171, e_223_172, e_223_175, e_223_177, e_223_178, e_223_179, e_223_181, e_223_182, e_223_183, e_223_185, e_223_188, e_223_191, e_223_192, e_223_193, e_223_196, e_223_197, e_223_198, e_223_199, e_223_201, e_223_202, e_223_204, e_223_205, e_223_209, e_223_210, e_223_213, e_223_215, e_223_216, e_223_219, e_223_221, e_223_222, e_223_225, e_223_226, e_223_229, e_223_230, e_223_231, e_223_233, e_223_236, e_223_239, e_223_241, e_223_242, e_223_245, e_223_246, e_223_247, e_223_250, e_223_252, e_223_255, e_223_256, e_223_259, e_223_260, e_223_261, Option.bind_some, Option.bind_none, m_kt, m_kn, Option.toList_some, Option.toList_none, List.nil_append, List.cons_append, List.append_nil, ltn, ite_not, ↓reduceIte, true_or, or_true, nP1, oI_s, oI_n, bI_f, bI_t, i1_0, i0_0, Bool.false_eq_true, not_true_eq_false, not_false_eq_true, Int32.le_refl, gM20 (H1 f).1, gf o ho, z0, c1, le, c2]
theorem Mshare_ev (O : mO) (d : Nat) (H : MS h m W) (R : rng W) (S : SH h) (x y z : Int32) : MA (ev O (d + 2) 223 0 [.ref 66, .int x, .int y, .int z, mJ, mJ, mJ, mJ] [] h) h m (nI (codeSh W x y z)) (.int (if codeSh W x y z = 0 then shareV W x y z else 0)) := by
  have H0 := H.t 0
  have hN := pN_le R
  unfold codeSh nPa
  cases a1 : inB x 0 (nI (pN W) - 1)
  · refine ⟨tH h m 1, ?_, sc.rf _⟩
    simp only [e_223_0, e_223_1, e_223_2, e_223_5, e_223_6, e_223_7, e_223_8, e_223_11, e_223_14, e_223_15, e_223_16, e_223_18, e_223_21, e_223_24, e_223_25, e_223_28, e_223_29, e_223_30, e_223_33, e_223_36, e_223_37, e_223_38, e_223_39, e_223_42, e_223_45, e_223_48, e_223_49, e_223_52, e_223_53, e_223_54, e_223_57, e_223_60, e_223_61, e_223_63, e_223_65, e_223_67, e_223_69, e_223_72, e_223_73, e_223_76, e_223_78, e_223_79, e_223_80, e_223_83, e_223_86, e_223_87, e_223_90, e_223_91, e_223_92, e_223_93, e_223_96, e_223_98, e_223_99, e_223_101, e_223_103, e_223_104, e_223_106, e_223_108, e_223_109, e_223_112, e_223_113, e_223_114, e_223_116, e_223_119, e_223_121, e_223_123, e_223_126, e_223_129, e_223_130, e_223_133, e_223_134, e_223_136, e_223_137, e_223_140, e_223_141, e_223_142, e_223_144, e_223_145, e_223_146, e_223_149, e_223_152, e_223_155, e_223_156, e_223_158, e_223_159, e_223_161, e_223_163, e_223_165, e_223_168, e_223_170, e_223_171, e_223_172, e_223_175, e_223_177, e_223_178, e_223_179, e_223_181, e_223_182, e_223_183, e_223_185, e_223_188, e_223_191, e_223_192, e_223_193, e_223_196, e_223_197, e_223_198, e_223_199, e_223_201, e_223_202, e_223_204, e_223_205, e_223_207, e_223_209, e_223_210, e_223_213, e_223_215, e_223_216, e_223_219, e_223_221, e_223_222, e_223_225, e_223_226, e_223_229, e_223_230, e_223_231, e_223_233, e_223_236, e_223_239, e_223_241, e_223_242, e_223_245, e_223_246, e_223_247, e_223_250, e_223_252, e_223_255, e_223_256, e_223_259, e_223_260, e_223_261, Option.bind_some, Option.bind_none, m_kt, m_kn, Option.toList_some, Option.toList_none, List.nil_append, List.cons_append, List.append_nil, ltn, ite_not, ↓reduceIte, true_or, or_true, nP1, oI_s, oI_n, bI_f, bI_t, i1_0, i0_0, Bool.false_eq_true, not_true_eq_false, not_false_eq_true, nI_0, m1m1, Nat.one_ne_zero, two_ne0, pMt H, H0.isc, noPane_ev O _ H0.w R, noHour_ev, noSeer_ev O _ H0.w, in_ev, Bool.not_false, Bool.not_true, bI_f, bI_t, thr0_ev O _ H0, thr1_ev O _ H0, i1_0, i0_0, z01, o01, tH_tH, Bool.false_eq_true, a1, Bool.false_and]
  · cases a2 : inB y 0 7
    · refine ⟨tH h m 1, ?_, sc.rf _⟩
      simp only [e_223_0, e_223_1, e_223_2, e_223_5, e_223_6, e_223_7, e_223_8, e_223_11, e_223_14, e_223_15, e_223_16, e_223_18, e_223_21, e_223_24, e_223_25, e_223_28, e_223_29, e_223_30, e_223_33, e_223_36, e_223_37, e_223_38, e_223_39, e_223_42, e_223_45, e_223_48, e_223_49, e_223_52, e_223_53, e_223_54, e_223_57, e_223_60, e_223_61, e_223_63, e_223_65, e_223_67, e_223_69, e_223_72, e_223_73, e_223_76, e_223_78, e_223_79, e_223_80, e_223_83, e_223_86, e_223_87, e_223_90, e_223_91, e_223_92, e_223_93, e_223_96, e_223_98, e_223_99, e_223_101, e_223_103, e_223_104, e_223_106, e_223_108, e_223_109, e_223_112, e_223_113, e_223_114, e_223_116, e_223_119, e_223_121, e_223_123, e_223_126, e_223_129, e_223_130, e_223_133, e_223_134, e_223_136, e_223_137, e_223_140, e_223_141, e_223_142, e_223_144, e_223_145, e_223_146, e_223_149, e_223_152, e_223_155, e_223_156, e_223_158, e_223_159, e_223_161, e_223_163, e_223_165, e_223_168, e_223_170, e_223_171, e_223_172, e_223_175, e_223_177, e_223_178, e_223_179, e_223_181, e_223_182, e_223_183, e_223_185, e_223_188, e_223_191, e_223_192, e_223_193, e_223_196, e_223_197, e_223_198, e_223_199, e_223_201, e_223_202, e_223_204, e_223_205, e_223_207, e_223_209, e_223_210, e_223_213, e_223_215, e_223_216, e_223_219, e_223_221, e_223_222, e_223_225, e_223_226, e_223_229, e_223_230, e_223_231, e_223_233, e_223_236, e_223_239, e_223_241, e_223_242, e_223_245, e_223_246, e_223_247, e_223_250, e_223_252, e_223_255, e_223_256, e_223_259, e_223_260, e_223_261, Option.bind_some, Option.bind_none, m_kt, m_kn, Option.toList_some, Option.toList_none, List.nil_append, List.cons_append, List.append_nil, ltn, ite_not, ↓reduceIte, true_or, or_true, nP1, oI_s, oI_n, bI_f, bI_t, i1_0, i0_0, Bool.false_eq_true, not_true_eq_false, not_false_eq_true, nI_0, m1m1, Nat.one_ne_zero, two_ne0, pMt H, H0.isc, noPane_ev O _ H0.w R, noHour_ev, noSeer_ev O _ H0.w, in_ev, Bool.not_false, Bool.not_true, bI_f, bI_t, thr0_ev O _ H0, thr1_ev O _ H0, i1_0, i0_0, z01, o01, tH_tH, Bool.false_eq_true, a1, a2, Bool.and_false]
    · cases a3 : inB z 0 9999
      · refine ⟨tH h m 2, ?_, sc.rf _⟩
        simp only [e_223_0, e_223_1, e_223_2, e_223_5, e_223_6, e_223_7, e_223_8, e_223_11, e_223_14, e_223_15, e_223_16, e_223_18, e_223_21, e_223_24, e_223_25, e_223_28, e_223_29, e_223_30, e_223_33, e_223_36, e_223_37, e_223_38, e_223_39, e_223_42, e_223_45, e_223_48, e_223_49, e_223_52, e_223_53, e_223_54, e_223_57, e_223_60, e_223_61, e_223_63, e_223_65, e_223_67, e_223_69, e_223_72, e_223_73, e_223_76, e_223_78, e_223_79, e_223_80, e_223_83, e_223_86, e_223_87, e_223_90, e_223_91, e_223_92, e_223_93, e_223_96, e_223_98, e_223_99, e_223_101, e_223_103, e_223_104, e_223_106, e_223_108, e_223_109, e_223_112, e_223_113, e_223_114, e_223_116, e_223_119, e_223_121, e_223_123, e_223_126, e_223_129, e_223_130, e_223_133, e_223_134, e_223_136, e_223_137, e_223_140, e_223_141, e_223_142, e_223_144, e_223_145, e_223_146, e_223_149, e_223_152, e_223_155, e_223_156, e_223_158, e_223_159, e_223_161, e_223_163, e_223_165, e_223_168, e_223_170, e_223_171, e_223_172, e_223_175, e_223_177, e_223_178, e_223_179, e_223_181, e_223_182, e_223_183, e_223_185, e_223_188, e_223_191, e_223_192, e_223_193, e_223_196, e_223_197, e_223_198, e_223_199, e_223_201, e_223_202, e_223_204, e_223_205, e_223_207, e_223_209, e_223_210, e_223_213, e_223_215, e_223_216, e_223_219, e_223_221, e_223_222, e_223_225, e_223_226, e_223_229, e_223_230, e_223_231, e_223_233, e_223_236, e_223_239, e_223_241, e_223_242, e_223_245, e_223_246, e_223_247, e_223_250, e_223_252, e_223_255, e_223_256, e_223_259, e_223_260, e_223_261, Option.bind_some, Option.bind_none, m_kt, m_kn, Option.toList_some, Option.toList_none, List.nil_append, List.cons_append, List.append_nil, ltn, ite_not, ↓reduceIte, true_or, or_true, nP1, oI_s, oI_n, bI_f, bI_t, i1_0, i0_0, Bool.false_eq_true, not_true_eq_false, not_false_eq_true, nI_0, m1m1, Nat.one_ne_zero, two_ne0, pMt H, H0.isc, noPane_ev O _ H0.w R, noHour_ev, noSeer_ev O _ H0.w, in_ev, Bool.not_false, Bool.not_true, bI_f, bI_t, thr0_ev O _ H0, thr1_ev O _ H0, i1_0, i0_0, z01, o01, tH_tH, Bool.false_eq_true, a1, a2, a3, Bool.and_true]
      · have b1 := a1
        have b2 := a2
        have b3 := a3
        obtain ⟨p, hp, rfl⟩ := inB_ix (by omega) a1
        obtain ⟨o, ho, rfl⟩ := inB_o a2
        obtain ⟨c, hc, rfl⟩ := inB_n (n := 9999) (by omega) a3
        obtain ⟨f0, e76⟩ := (SH_tH S m 0).at (b := 76) (n := 8) (by decide)
        obtain ⟨f, e⟩ := msh_ev O d H0 R e76 hp ho hc
        refine ⟨_, ?_, sc_set (h := tH h m 0) (show (76, 8) ∈ tab by decide) f⟩
        unfold shareV
        rw [nI_clamp (show p < 2 ^ 31 by omega), nI_clamp (show o < 2 ^ 31 by omega), nI_clamp (show c < 2 ^ 31 by omega)]
        simp only [e_223_0, e_223_1, e_223_2, e_223_5, e_223_6, e_223_7, e_223_8, e_223_11, e_223_14, e_223_15, e_223_16, e_223_18, e_223_21, e_223_24, e_223_25, e_223_28, e_223_29, e_223_30, e_223_33, e_223_36, e_223_37, e_223_38, e_223_39, e_223_42, e_223_45, e_223_48, e_223_49, e_223_52, e_223_53, e_223_54, e_223_57, e_223_60, e_223_61, e_223_63, e_223_65, e_223_67, e_223_69, e_223_72, e_223_73, e_223_76, e_223_78, e_223_79, e_223_80, e_223_83, e_223_86, e_223_87, e_223_90, e_223_91, e_223_92, e_223_93, e_223_96, e_223_98, e_223_99, e_223_101, e_223_103, e_223_104, e_223_106, e_223_108, e_223_109, e_223_112, e_223_113, e_223_114, e_223_116, e_223_119, e_223_121, e_223_123, e_223_126, e_223_129, e_223_130, e_223_133, e_223_134, e_223_136, e_223_137, e_223_140, e_223_141, e_223_142, e_223_144, e_223_145, e_223_146, e_223_149, e_223_152, e_223_155, e_223_156, e_223_158, e_223_159, e_223_161, e_223_163, e_223_165, e_223_168, e_223_170, e_223_171, e_223_172, e_223_175, e_223_177, e_223_178, e_223_179, e_223_181, e_223_182, e_223_183, e_223_185, e_223_188, e_223_191, e_223_192, e_223_193, e_223_196, e_223_197, e_223_198, e_223_199, e_223_201, e_223_202, e_223_204, e_223_205, e_223_207, e_223_209, e_223_210, e_223_213, e_223_215, e_223_216, e_223_219, e_223_221, e_223_222, e_223_225, e_223_226, e_223_229, e_223_230, e_223_231, e_223_233, e_223_236, e_223_239, e_223_241, e_223_242, e_223_245, e_223_246, e_223_247, e_223_250, e_223_252, e_223_255, e_223_256, e_223_259, e_223_260, e_223_261, Option.bind_some, Option.bind_none, m_kt, m_kn, Option.toList_some, Option.toList_none, List.nil_append, List.cons_append, List.append_nil, ltn, ite_not, ↓reduceIte, true_or, or_true, nP1, oI_s, oI_n, bI_f, bI_t, i1_0, i0_0, Bool.false_eq_true, not_true_eq_false, not_false_eq_true, nI_0, m1m1, Nat.one_ne_zero, two_ne0, pMt H, H0.isc, noPane_ev O _ H0.w R, noHour_ev, noSeer_ev O _ H0.w, in_ev, Bool.not_false, Bool.not_true, bI_f, bI_t, thr0_ev O _ H0, thr1_ev O _ H0, i1_0, i0_0, z01, o01, tH_tH, Bool.false_eq_true, b1, b2, b3, Bool.and_true, e]
        rfl
end ShareM
