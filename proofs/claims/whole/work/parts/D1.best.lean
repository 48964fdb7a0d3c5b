/-! The class's market: the best of the sets, pay, ways -/
section BestC
variable {h : mH} {n : Nat} {b : Nat → Int}
theorem bw_b {B : Int} (hb : bbd b n B) (hB : 0 ≤ B) (X : Nat) : ∀ m, m ≤ 2 ^ n → 0 ≤ lp (fun o x => if o &&& X = 0 then max x (b o) else x) m 0 ∧ lp (fun o x => if o &&& X = 0 then max x (b o) else x) m 0 ≤ B
  | 0, _ => ⟨Int.le_refl _, hB⟩
  | m + 1, hm => by
    have ih := bw_b hb hB X m (by omega)
    have q := hb m (by omega)
    rw [lp_s]
    split <;> omega
theorem bestWithout_ev (O : mO) (d : Nat) (hn : n ≤ 6) (K : MK h n b) {B : Int} (hb : bbd b n B) (h0 : 0 ≤ B) (hB : B ≤ 2 ^ 50) {X : Nat} (hX : X < 64) : ev O (d) 62 0 [.ref 63, .int (nI X), mJ, mJ, mJ] [] h = some (.inl (some (.long (lI (bwS n b X)))), h) := by
  have p6 : 2 ^ n ≤ 64 := by rw [show 64 = 2 ^ 6 from rfl]; exact Nat.pow_le_pow_right (by omega) hn
  obtain ⟨K1, f, K2, K3⟩ := K
  have e := lp_runJ (ν := Unit) (F := fun o (x : Int) _ => ev O (d) 62 5 [.ref 63, .int (nI X), .long (lI x), mJ, .int (nI o)] [] h) (f := fun o x => if o &&& X = 0 then max x (b o) else x) (n := 2 ^ n) (fun o x _ => 0 ≤ x ∧ x ≤ B) (fun o x _ ho J => by
    have q := hb o ho
    have c1 : ¬ nI (2 ^ n) ≤ nI o := nI_ge ho (by omega)
    have sx : sml x := ⟨by omega, by omega⟩
    have sy : sml (b o) := ⟨by omega, by omega⟩
    have ga : m_al h 64 (nI o) = some (lI (b o)) := by rw [al_n K2 (by omega) (by decide), K3 o ho]
    refine ⟨(), by split <;> omega, ?_⟩
    rw [e_62_5]
    by_cases z : o &&& X = 0
    · have z' : nI o &&& nI X = 0 := by rw [st_and o (by omega) X hX]; exact z
      simp only [e_62_0, e_62_1, e_62_2, e_62_3, e_62_3I, e_62_3A, e_62_3O, e_62_7, e_62_8, e_62_9, e_62_12, e_62_13, e_62_16, e_62_18, e_62_19, e_62_20, e_62_23, e_62_24, e_62_25, e_62_28, e_62_30, e_62_31, e_62_34, e_62_35, e_62_35I, e_62_35A, e_62_35O, e_62_38, e_62_41, e_62_42, Option.bind_some, Option.bind_none, m_kt, m_kn, Option.toList_some, Option.toList_none, List.nil_append, List.cons_append, List.append_nil, ltn, ite_not, ↓reduceIte, true_or, or_true, nP1, oI_s, oI_n, bI_f, bI_t, i1_0, i0_0, Bool.false_eq_true, not_true_eq_false, not_false_eq_true, gMk1 K1, gMk0 K1, shl_nI, (st_n n hn).2, c1, z', z, ga, lI_mx sx sy]
    · have z' : ¬ nI o &&& nI X = 0 := by rw [st_and o (by omega) X hX]; exact z
      simp only [e_62_0, e_62_1, e_62_2, e_62_3, e_62_3I, e_62_3A, e_62_3O, e_62_7, e_62_8, e_62_9, e_62_12, e_62_13, e_62_16, e_62_18, e_62_19, e_62_20, e_62_23, e_62_24, e_62_25, e_62_28, e_62_30, e_62_31, e_62_34, e_62_35, e_62_35I, e_62_35A, e_62_35O, e_62_38, e_62_41, e_62_42, Option.bind_some, Option.bind_none, m_kt, m_kn, Option.toList_some, Option.toList_none, List.nil_append, List.cons_append, List.append_nil, ltn, ite_not, ↓reduceIte, true_or, or_true, nP1, oI_s, oI_n, bI_f, bI_t, i1_0, i0_0, Bool.false_eq_true, not_true_eq_false, not_false_eq_true, gMk1 K1, gMk0 K1, shl_nI, (st_n n hn).2, c1, z', z]) 0 () ⟨by omega, h0⟩
  obtain ⟨-, -, e⟩ := e
  simp only [nI_0] at e
  have e : ev O (d) 62 5 [.ref 63, .int (nI X), .long 0, mJ, .int 0] [] h = _ := e
  simp only [e_62_0, e_62_1, e_62_2, e_62_3, e_62_3I, e_62_3A, e_62_3O, e_62_7, e_62_8, e_62_9, e_62_12, e_62_13, e_62_16, e_62_18, e_62_19, e_62_20, e_62_23, e_62_24, e_62_25, e_62_28, e_62_30, e_62_31, e_62_34, e_62_35, e_62_35I, e_62_35A, e_62_35O, e_62_38, e_62_41, e_62_42, Option.bind_some, Option.bind_none, m_kt, m_kn, Option.toList_some, Option.toList_none, List.nil_append, List.cons_append, List.append_nil, ltn, ite_not, ↓reduceIte, true_or, or_true, nP1, oI_s, oI_n, bI_f, bI_t, i1_0, i0_0, Bool.false_eq_true, not_true_eq_false, not_false_eq_true]
  refine e.trans ?_
  rw [e_62_5]
  simp only [e_62_0, e_62_1, e_62_2, e_62_3, e_62_3I, e_62_3A, e_62_3O, e_62_7, e_62_8, e_62_9, e_62_12, e_62_13, e_62_16, e_62_18, e_62_19, e_62_20, e_62_23, e_62_24, e_62_25, e_62_28, e_62_30, e_62_31, e_62_34, e_62_35, e_62_35I, e_62_35A, e_62_35O, e_62_38, e_62_41, e_62_42, Option.bind_some, Option.bind_none, m_kt, m_kn, Option.toList_some, Option.toList_none, List.nil_append, List.cons_append, List.append_nil, ltn, ite_not, ↓reduceIte, true_or, or_true, nP1, oI_s, oI_n, bI_f, bI_t, i1_0, i0_0, Bool.false_eq_true, not_true_eq_false, not_false_eq_true, gMk1 K1, shl_nI, (st_n n hn).2, Int32.le_refl]
  rfl
theorem payOf_ev (O : mO) (d : Nat) {x : Int} (h0 : 0 ≤ x) (h1 : x ≤ 2 ^ 50) : ev O (d) 63 0 [.long (lI x), mJ] [] h = some (.inl (some (.long (lI ((x + 887503681 - 1) / 887503681)))), h) := by
  have s1 : sml (x + 887503681 - 1) := ⟨by omega, by omega⟩
  have s2 : sml 887503681 := ⟨by omega, by omega⟩
  have c1 : ¬ (887503681 : Int64) = 0 := by decide
  have ar : (lI x + 887503681 - 1) / 887503681 = lI ((x + 887503681 - 1) / 887503681) := by
    rw [show (887503681 : Int64) = lI 887503681 from rfl, show (1 : Int64) = lI 1 from rfl, lI_add, lI_sub, lI_div s1 s2 (by omega) (by omega)]
  simp only [e_63_0, e_63_1, e_63_4, e_63_5, e_63_6, e_63_7, e_63_10, e_63_11, Option.bind_some, Option.bind_none, m_kt, m_kn, Option.toList_some, Option.toList_none, List.nil_append, List.cons_append, List.append_nil, ltn, ite_not, ↓reduceIte, true_or, or_true, nP1, oI_s, oI_n, bI_f, bI_t, i1_0, i0_0, Bool.false_eq_true, not_true_eq_false, not_false_eq_true, c1, ar]
end BestC
section PaidC
variable {h : mH} {W : WD} {c : Nat → Bool} {N : Nat}
/-- a best way without the seers of X -/
theorem bw_way (R : rng W) (hN : N ≤ 30) (X : Nat) : ∃ u, opt (sN W) N (oW W) c X u ∧ bwS (sN W) (bcA (sN W) (oW W) c N) X = vM (oW W) u ∧ payM (oW W) u ≤ 594 ∧ (∀ s, u s ≤ 30) ∧ 0 ≤ vM (oW W) u ∧ vM (oW W) u ≤ 887503681 * 594 := by
  have h6 : sN W ≤ 6 := R.1.2.2.2.1.2
  obtain ⟨u, hu, e⟩ := bw_opt h6 (of := oW W) (c := c) hN X
  have p := pay_b R h6 hN hu.1
  have q := v_pos hN hu.1
  refine ⟨u, hu, e.symm, p, fun s => vld_30 hN hu.1 s, q, ?_⟩
  unfold vM
  omega
def payS (W : WD) (c : Nat → Bool) (N X : Nat) : Nat := ((bwS (sN W) (bcA (sN W) (oW W) c N) X + 887503681 - 1) / 887503681).toNat
def wayS (W : WD) (c : Nat → Bool) (N : Nat) : Nat := (887503681 * (payS W c N 0 : Int) - bwS (sN W) (bcA (sN W) (oW W) c N) 0).toNat
def digS (W : WD) (c : Nat → Bool) (N s : Nat) : Nat := wayS W c N / pl s % 31
theorem opt_v (R : rng W) (hN : N ≤ 30) {X : Nat} {u : Nat → Nat} (hu : opt (sN W) N (oW W) c X u) : bwS (sN W) (bcA (sN W) (oW W) c N) X = vM (oW W) u := by
  obtain ⟨v, hv, e, -⟩ := bw_way (c := c) R hN X
  rw [e]
  exact Int.le_antisymm (hu.2.2 v hv.1 hv.2.1) (hv.2.2 u hu.1 hu.2.1)
theorem opt_p (R : rng W) (hN : N ≤ 30) {X : Nat} {u : Nat → Nat} (hu : opt (sN W) N (oW W) c X u) : payS W c N X = payM (oW W) u := by
  unfold payS
  rw [opt_v R hN hu, (pay_of_v (fun s => vld_30 hN hu.1 s)).1]
  rfl
theorem opt_w (R : rng W) (hN : N ≤ 30) {u : Nat → Nat} (hu : opt (sN W) N (oW W) c 0 u) : wayS W c N = wayM u := by
  unfold wayS
  rw [opt_p R hN hu, opt_v R hN hu, (pay_of_v (fun s => vld_30 hN hu.1 s)).2]
  rfl
theorem opt_d (R : rng W) (hN : N ≤ 30) {u : Nat → Nat} (hu : opt (sN W) N (oW W) c 0 u) {s : Nat} (hs : s < 6) : digS W c N s = u s := by
  unfold digS
  rw [opt_w R hN hu, way_dig (fun s => vld_30 hN hu.1 s) hs]
theorem bwo_ev (O : mO) (d : Nat) (R : rng W) (hN : N ≤ 30) (K : MK h (sN W) (bcA (sN W) (oW W) c N)) {X : Nat} (hX : X < 64) {u : Nat → Nat} (hu : opt (sN W) N (oW W) c X u) : ev O (d) 62 0 [.ref 63, .int (nI X), mJ, mJ, mJ] [] h = some (.inl (some (.long (lI (vM (oW W) u)))), h) := by
  have h6 : sN W ≤ 6 := R.1.2.2.2.1.2
  rw [← opt_v R hN hu]
  exact bestWithout_ev O d h6 K (bcA_b R h6 hN c) (by omega) (by omega) hX
theorem pof_ev (O : mO) (d : Nat) (R : rng W) (hN : N ≤ 30) {X : Nat} {u : Nat → Nat} (hu : opt (sN W) N (oW W) c X u) : ev O (d) 63 0 [.long (lI (vM (oW W) u)), mJ] [] h = some (.inl (some (.long (lI (payM (oW W) u : Int)))), h) := by
  have h6 : sN W ≤ 6 := R.1.2.2.2.1.2
  have p := pay_b R h6 hN hu.1
  have q := v_pos hN hu.1
  rw [← (pay_of_v (of := oW W) (fun s => vld_30 hN hu.1 s)).1]
  exact payOf_ev O d q (by unfold vM; omega)
theorem paidByAll_ev (O : mO) (d : Nat) (R : rng W) (hN : N ≤ 30) (K : MK h (sN W) (bcA (sN W) (oW W) c N)) : ev O (d + 1) 64 0 [.ref 63] [] h = some (.inl (some (.int (nI (payS W c N 0)))), h) := by
  obtain ⟨u, hu, e, p, -⟩ := bw_way (c := c) R hN 0
  have eb := bwo_ev O d R hN K (X := 0) (by omega) hu
  rw [nI_0] at eb
  rw [opt_p R hN hu]
  simp only [e_64_0, e_64_1, e_64_2, e_64_5, e_64_8, e_64_9, Option.bind_some, Option.bind_none, m_kt, m_kn, Option.toList_some, Option.toList_none, List.nil_append, List.cons_append, List.append_nil, ltn, ite_not, ↓reduceIte, true_or, or_true, nP1, oI_s, oI_n, bI_f, bI_t, i1_0, i0_0, Bool.false_eq_true, not_true_eq_false, not_false_eq_true, iMk K.1, eb, pof_ev O d R hN hu, l_nI (show payM (oW W) u < 2 ^ 31 by omega)]
theorem paidWithout_ev (O : mO) (d : Nat) (R : rng W) (hN : N ≤ 30) (K : MK h (sN W) (bcA (sN W) (oW W) c N)) {s : Nat} (hs : s < 6) : ev O (d + 1) 65 0 [.ref 63, .int (nI s)] [] h = some (.inl (some (.int (nI (payS W c N (2 ^ s))))), h) := by
  obtain ⟨u, hu, e, p, -⟩ := bw_way (c := c) R hN (2 ^ s)
  have p6 : 2 ^ s < 64 := by rw [show 64 = 2 ^ 6 from rfl]; exact Nat.pow_lt_pow_right (by omega) hs
  have eb := bwo_ev O d R hN K (X := 2 ^ s) p6 hu
  rw [opt_p R hN hu]
  simp only [e_65_0, e_65_1, e_65_2, e_65_3, e_65_4, e_65_7, e_65_10, e_65_11, Option.bind_some, Option.bind_none, m_kt, m_kn, Option.toList_some, Option.toList_none, List.nil_append, List.cons_append, List.append_nil, ltn, ite_not, ↓reduceIte, true_or, or_true, nP1, oI_s, oI_n, bI_f, bI_t, i1_0, i0_0, Bool.false_eq_true, not_true_eq_false, not_false_eq_true, iMk K.1, shl_nI, (st_n s (by omega)).2, eb, pof_ev O d R hN hu, l_nI (show payM (oW W) u < 2 ^ 31 by omega)]
theorem soldTo_ev (O : mO) (d : Nat) (P : PLC O) (R : rng W) (hN : N ≤ 30) (K : MK h (sN W) (bcA (sN W) (oW W) c N)) {s : Nat} (hs : s < 6) : ev O (d + 1) 66 0 [.ref 63, .int (nI s), mJ, mJ, mJ, mJ] [] h = some (.inl (some (.int (nI (digS W c N s) - 1))), h) := by
  obtain ⟨u, hu, e, p, u30, -⟩ := bw_way (c := c) R hN 0
  have eb := bwo_ev O d R hN K (X := 0) (by omega) hu
  rw [nI_0] at eb
  obtain ⟨p1, p2⟩ := pl_b s hs
  have wl := way_lt u30
  have dd := opt_d R hN hu hs
  have ww := (pay_of_v (of := oW W) u30).2
  have a1 : lI (payM (oW W) u : Int) * 887503681 - lI (vM (oW W) u) = lI (wayM u : Int) := by
    rw [show (887503681 : Int64) = lI 887503681 from rfl, lI_mul, lI_sub, Int.mul_comm, ww]
  have a2 : lI (wayM u : Int) / lI (pl s : Int) = lI ((wayM u / pl s : Nat) : Int) := by
    rw [lI_div ⟨by omega, by omega⟩ ⟨by omega, by omega⟩ (by omega) (by omega)]
    rfl
  have dl : wayM u / pl s ≤ wayM u := Nat.div_le_self _ _
  have a3 : lI ((wayM u / pl s : Nat) : Int) - lI ((wayM u / pl s : Nat) : Int) / 31 * 31 = lI ((wayM u / pl s % 31 : Nat) : Int) := by
    generalize wayM u / pl s = q at *
    rw [show (31 : Int64) = lI 31 from rfl, lI_div ⟨by omega, by omega⟩ ⟨by omega, by omega⟩ (by omega) (by omega), lI_mul, lI_sub]
    congr 1
    omega
  have c1 : ¬ lI (pl s : Int) = 0 := lI_ne (b := 0) ⟨by omega, by omega⟩ ⟨by omega, by omega⟩ (by omega)
  have c2 : ¬ (31 : Int64) = 0 := by decide
  unfold digS
  rw [opt_w R hN hu]
  simp only [e_66_0, e_66_1, e_66_2, e_66_5, e_66_6, e_66_7, e_66_10, e_66_13, e_66_14, e_66_15, e_66_16, e_66_16I, e_66_16A, e_66_16O, e_66_18, e_66_20, e_66_23, e_66_24, e_66_25, e_66_26, e_66_29, e_66_30, e_66_31, e_66_32, e_66_33, Option.bind_some, Option.bind_none, m_kt, m_kn, Option.toList_some, Option.toList_none, List.nil_append, List.cons_append, List.append_nil, ltn, ite_not, ↓reduceIte, true_or, or_true, nP1, oI_s, oI_n, bI_f, bI_t, i1_0, i0_0, Bool.false_eq_true, not_true_eq_false, not_false_eq_true, iMk K.1, eb, pof_ev O d R hN hu, a1, P.sv, P.at hs, c1, a2, c2, a3, l_nI (show wayM u / pl s % 31 < 2 ^ 31 by omega)]
end PaidC
