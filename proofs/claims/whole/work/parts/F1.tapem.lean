/-! The reference's tape, read thing by thing -/
def mz5 (m : Nat → Int32) (p b dp st : Int32) : Nat → Int32 := fun k => if k = 9 then p else if k = 11 then b else if k = 12 then dp else if k = 15 then st else m k
def hz (h : mH) (m : Nat → Int32) (p b dp st : Int32) (V : WD) : mH := ((h.1.set 66 (oM (mz5 m p b dp st))).set 67 (aI 2101 V), h.2)
def RZ (h : mH) (m : Nat → Int32) (l : Nat) (B : Nat → Int32) : Prop := (∃ m0, h.1[66]? = some (oM m0)) ∧ (∃ V0, h.1[67]? = some (aI 2101 V0)) ∧ h.1[71]? = some (aB 400 B) ∧ m 10 = nI l ∧ l ≤ 400
theorem m5_9 (m : Nat → Int32) (p b dp st x : Int32) : upd (mz5 m p b dp st) 9 x = mz5 m x b dp st := by
  funext k; unfold upd mz5; split <;> rfl
theorem m5_11 (m : Nat → Int32) (p b dp st x : Int32) : upd (mz5 m p b dp st) 11 x = mz5 m p x dp st := by
  funext k; unfold upd mz5
  split
  · rename_i q; subst q; rfl
  · rfl
theorem m5_12 (m : Nat → Int32) (p b dp st x : Int32) : upd (mz5 m p b dp st) 12 x = mz5 m p b x st := by
  funext k; unfold upd mz5
  split
  · rename_i q; subst q; rfl
  · rfl
theorem m5_15 (m : Nat → Int32) (p b dp st x : Int32) : upd (mz5 m p b dp st) 15 x = mz5 m p b dp x := by
  funext k; unfold upd mz5
  split
  · rename_i q; subst q; rfl
  · rfl
theorem m5_m {m : Nat → Int32} {p b dp st : Int32} {k : Nat} (h : k ≠ 9 ∧ k ≠ 11 ∧ k ≠ 12 ∧ k ≠ 15) : mz5 m p b dp st k = m k := by
  unfold mz5; rw [if_neg h.1, if_neg h.2.1, if_neg h.2.2.1, if_neg h.2.2.2]
theorem m5_id (m : Nat → Int32) : mz5 m (m 9) (m 11) (m 12) (m 15) = m := by
  funext k; unfold mz5
  repeat' split
  all_goals first | rfl | (rename_i q; subst q; rfl) | skip
def atB (B : Nat → Int32) (l p : Nat) (lo hi : Int32) : Bool := decide (p < l) && (decide (lo ≤ B p) && decide (B p ≤ hi))
def le' (B : Nat → Int32) (l q : Nat) : Nat := skN (ltr B l) (l - q) q
def de' (B : Nat → Int32) (l q : Nat) : Nat := skN (dgt B l) (l - q) q
theorem le_ge (B : Nat → Int32) (l q : Nat) : q ≤ le' B l q := (skN_all _ _).1
theorem le_le {B : Nat → Int32} {l q : Nat} (h : q ≤ l) : le' B l q ≤ l := by
  have := (skN_all (c := ltr B l) (l - q) q).2.1
  unfold le'; omega
theorem mat_i {B : Nat → Int32} {q : Nat} {s : List Nat} (h : mat B q s = true) {i : Nat} (hi : i < s.length) : B (q + i) = nI (s.getD i 0) := by
  unfold mat at h
  rw [Option.isNone_iff_eq_none] at h
  have := fd_none h i hi
  simpa using this
theorem ltr_c {B : Nat → Int32} {l i c : Nat} (hi : i < l) (e : B i = nI c) (h1 : 97 ≤ c) (h2 : c ≤ 122) : ltr B l i = true := by
  have g1 : (97 : Int32) ≤ nI c := nI_le (a := 97) h1 (by omega)
  have g2 : nI c ≤ (122 : Int32) := nI_le (b := 122) h2 (by omega)
  unfold ltr
  rw [e, decide_eq_true hi, decide_eq_true g1, decide_eq_true g2]
  rfl
theorem ltr_l {B : Nat → Int32} {l i : Nat} (h : l ≤ i) : ltr B l i = false := by unfold ltr; rw [decide_eq_false (by omega)]; rfl
theorem dgt_l {B : Nat → Int32} {l i : Nat} (h : l ≤ i) : dgt B l i = false := by unfold dgt; rw [decide_eq_false (by omega)]; rfl
theorem wd_le {B : Nat → Int32} {l q : Nat} {s : List Nat} (L : low s) (h : wd B l q s = true) : le' B l q = q + s.length ∧ q + s.length ≤ l := by
  unfold wd at h
  simp only [Bool.and_eq_true, decide_eq_true_eq, Bool.not_eq_true'] at h
  obtain ⟨h1, h2, h3⟩ := h
  refine ⟨?_, h1⟩
  unfold le'
  refine skN_is (by omega) (by omega) (fun i a b => ?_) (fun _ => h2)
  obtain ⟨j, rfl⟩ : ∃ j, i = q + j := ⟨i - q, by omega⟩
  have lj := L.2.2 j (by omega)
  exact ltr_c (by omega) (mat_i h3 (by omega)) lj.1 lj.2
theorem iw_wd {B : Nat → Int32} {l q : Nat} {s : List Nat} (L : low s) (hq : q ≤ l) : (decide (le' B l q = q + s.length) && mat B q s) = wd B l q s := by
  cases c : wd B l q s
  · cases m : mat B q s
    · rw [Bool.and_false]
    · rw [Bool.and_true]
      refine decide_eq_false (fun e => ?_)
      have hl := le_le (B := B) hq
      have e2 : ltr B l (q + s.length) = false := by
        rcases Nat.lt_or_ge (q + s.length) l with z | z
        · have := (skN_all (c := ltr B l) (l - q) q).2.2.2
          unfold le' at e
          rw [e] at this
          exact this (by omega)
        · exact ltr_l z
      unfold wd at c
      rw [decide_eq_true (by omega), e2, m] at c
      cases c
  · rw [decide_eq_true (wd_le L c).1]
    unfold wd at c
    simp only [Bool.and_eq_true] at c
    rw [c.2.2]
    rfl
theorem ndg_de {B : Nat → Int32} {l q : Nat} (hq : q ≤ l) : ndg B l q = min 4 (de' B l q - q) := by
  obtain ⟨a, b, e, f⟩ := skN_all (c := dgt B l) (l - q) q
  have fe : dgt B l (skN (dgt B l) (l - q) q) = false := by
    rcases Nat.lt_or_ge (skN (dgt B l) (l - q) q) (q + (l - q)) with z | z
    · exact f z
    · exact dgt_l (by omega)
  unfold ndg de'
  have : skN (dgt B l) 4 q = min (q + 4) (skN (dgt B l) (l - q) q) := by
    refine skN_is (by omega) (by omega) (fun i h1 h2 => e i h1 (by omega)) (fun h => ?_)
    rw [show min (q + 4) (skN (dgt B l) (l - q) q) = skN (dgt B l) (l - q) q by omega]
    exact fe
  rw [this]; omega
section TapeM
variable {h : mH} {m : Nat → Int32} {l : Nat} {B : Nat → Int32} {p b dp st : Int32} {V : WD}
theorem Z66 (R : RZ h m l B) : (hz h m p b dp st V).1[66]? = some (oM (mz5 m p b dp st)) := by
  obtain ⟨⟨m0, e⟩, -⟩ := R
  exact (hne (by decide)).trans (hget e)
theorem ZMS (R : RZ h m l B) : MS (hz h m p b dp st V) (mz5 m p b dp st) V := by
  refine ⟨Z66 R, ?_⟩
  obtain ⟨-, ⟨V0, e⟩, -⟩ := R
  exact hget (c := aI 2101 V0) ((hne (by decide)).trans e)
theorem Z71 (R : RZ h m l B) : (hz h m p b dp st V).1[71]? = some (aB 400 B) := ((hne (by decide)).trans (hne (by decide))).trans R.2.2.1
theorem Zisc (R : RZ h m l B) : m_isc (hz h m p b dp st V) 66 8 = true := (ZMS R).isc
theorem gz1 (R : RZ h m l B) : m_gf (hz h m p b dp st V) 66 8 1 = some (.ref 67) := gM1 (Z66 R)
theorem gz7 (R : RZ h m l B) : m_gf (hz h m p b dp st V) 66 8 7 = some (.ref 71) := gM7 (Z66 R)
theorem gz9 (R : RZ h m l B) : m_gf (hz h m p b dp st V) 66 8 9 = some (.int p) := gM9 (Z66 R)
theorem gz10 (R : RZ h m l B) : m_gf (hz h m p b dp st V) 66 8 10 = some (.int (nI l)) := (gM10 (Z66 R)).trans (by rw [m5_m (by decide), R.2.2.2.1])
theorem gz11 (R : RZ h m l B) : m_gf (hz h m p b dp st V) 66 8 11 = some (.int b) := gM11 (Z66 R)
theorem gz12 (R : RZ h m l B) : m_gf (hz h m p b dp st V) 66 8 12 = some (.int dp) := gM12 (Z66 R)
theorem gz15 (R : RZ h m l B) : m_gf (hz h m p b dp st V) 66 8 15 = some (.int st) := gM15 (Z66 R)
theorem z_set (q : Nat → Int32) : ((hz h m p b dp st V).1.set 66 (oM q), (hz h m p b dp st V).2) = (((h.1.set 66 (oM q)).set 67 (aI 2101 V), h.2) : mH) := by
  unfold hz
  simp only
  rw [List.set_comm _ _ (by decide), List.set_set]
theorem pz9 (R : RZ h m l B) (x : Int32) : m_pf (hz h m p b dp st V) 66 8 9 (.int x) = some (hz h m x b dp st V) := by
  rw [pM9 (Z66 R), z_set, m5_9]; rfl
theorem pz11 (R : RZ h m l B) (x : Int32) : m_pf (hz h m p b dp st V) 66 8 11 (.int x) = some (hz h m p x dp st V) := by
  rw [pM11 (Z66 R), z_set, m5_11]; rfl
theorem pz12 (R : RZ h m l B) (x : Int32) : m_pf (hz h m p b dp st V) 66 8 12 (.int x) = some (hz h m p b x st V) := by
  rw [pM12 (Z66 R), z_set, m5_12]; rfl
theorem pz15 (R : RZ h m l B) (x : Int32) : m_pf (hz h m p b dp st V) 66 8 15 (.int x) = some (hz h m p b dp x V) := by
  rw [pM15 (Z66 R), z_set, m5_15]; rfl
theorem sz67 (R : RZ h m l B) {i : Nat} (hi : i < 2101) (x : Int32) : m_si (hz h m p b dp st V) 67 (nI i) x = some (hz h m p b dp st (upd V i x)) := by
  rw [si_n (ZMS R).2 hi (by decide)]
  unfold hz
  rw [List.set_set]
theorem az71 (R : RZ h m l B) {i : Nat} (hi : i < 400) : m_ab (hz h m p b dp st V) 71 (nI i) = some (B i) := ab_n (Z71 R) hi (by decide)
theorem isAt_ev (O : mO) (d : Nat) (R : RZ h m l B) {q : Nat} (hq : q ≤ l) (lo hi : Int32) : ev O (d) 167 0 [.ref 66, .int lo, .int hi] [] (hz h m (nI q) b dp st V) = some (.inl (some (.int (bI (atB B l q lo hi)))), hz h m (nI q) b dp st V) := by
  have hl := R.2.2.2.2
  unfold atB
  by_cases c1 : q < l
  · have n1 : ¬ nI l ≤ nI q := nI_ge (by omega) (by omega)
    by_cases c2 : lo ≤ B q <;> by_cases c3 : B q ≤ hi <;> simp only [e_167_0, e_167_1, e_167_4, e_167_5, e_167_8, e_167_11, e_167_12, e_167_15, e_167_16, e_167_19, e_167_20, e_167_21, e_167_24, e_167_25, e_167_28, e_167_29, e_167_32, e_167_33, e_167_34, e_167_37, e_167_38, e_167_41, e_167_42, Option.bind_some, Option.bind_none, m_kt, m_kn, Option.toList_some, Option.toList_none, List.nil_append, List.cons_append, List.append_nil, ltn, ite_not, ↓reduceIte, true_or, or_true, nP1, oI_s, oI_n, bI_f, bI_t, i1_0, i0_0, Bool.false_eq_true, not_true_eq_false, not_false_eq_true, gz9 R, gz10 R, n1, gz7 R, az71 R (show q < 400 by omega), c1, c2, c3, z01, o01, decide_true, decide_false, Bool.and_true, Bool.and_false, Bool.true_and, Bool.false_and]
  · have n1 : nI l ≤ nI q := nI_le (by omega) (by omega)
    simp only [e_167_0, e_167_1, e_167_4, e_167_5, e_167_8, e_167_11, e_167_12, e_167_15, e_167_16, e_167_19, e_167_20, e_167_21, e_167_24, e_167_25, e_167_28, e_167_29, e_167_32, e_167_33, e_167_34, e_167_37, e_167_38, e_167_41, e_167_42, Option.bind_some, Option.bind_none, m_kt, m_kn, Option.toList_some, Option.toList_none, List.nil_append, List.cons_append, List.append_nil, ltn, ite_not, ↓reduceIte, true_or, or_true, nP1, oI_s, oI_n, bI_f, bI_t, i1_0, i0_0, Bool.false_eq_true, not_true_eq_false, not_false_eq_true, gz9 R, gz10 R, n1, c1, z01, decide_false, Bool.false_and]
theorem at_eq {x c : Int32} : (decide (c ≤ x) && decide (x ≤ c)) = decide (x = c) := by
  by_cases q : x = c
  · subst q; simp [Int32.le_refl]
  · rw [decide_eq_false q]
    cases h1 : decide (c ≤ x) <;> cases h2 : decide (x ≤ c) <;> first | rfl | skip
    exact absurd (Int32.le_antisymm (of_decide_eq_true h2) (of_decide_eq_true h1)) q
theorem blanks_run (O : mO) (d : Nat) (R : RZ h m l B) : ∀ (k q : Nat), q + k = l → ev O (d + 1) 168 0 [.ref 66] [] (hz h m (nI q) b dp st V) = some (.inl none, hz h m (nI (skN (fun i => decide (B i = 32)) k q)) (nI (skN (fun i => decide (B i = 32)) k q)) dp st V) := by
  intro k
  induction k with
  | zero =>
    intro q hq
    have c : atB B l q 32 32 = false := by unfold atB; rw [decide_eq_false (by omega)]; rfl
    rw [e_168_0]
    simp only [e_168_1, e_168_3, e_168_5, e_168_8, e_168_11, e_168_12, e_168_13, e_168_16, e_168_17, e_168_18, e_168_21, e_168_24, e_168_25, e_168_26, e_168_29, e_168_32, Option.bind_some, Option.bind_none, m_kt, m_kn, Option.toList_some, Option.toList_none, List.nil_append, List.cons_append, List.append_nil, ltn, ite_not, ↓reduceIte, true_or, or_true, nP1, oI_s, oI_n, bI_f, bI_t, i1_0, i0_0, Bool.false_eq_true, not_true_eq_false, not_false_eq_true, Zisc R, isAt_ev O d R (show q ≤ l by omega), c, gz9 R, pz11 R]
    rfl
  | succ k ih =>
    intro q hq
    rw [e_168_0, skN_s]
    by_cases z : B q = 32
    · have c : atB B l q 32 32 = true := by unfold atB; rw [at_eq, decide_eq_true z, decide_eq_true (by omega)]; rfl
      rw [if_pos (decide_eq_true z), ← ih (q + 1) (by omega)]
      simp only [e_168_1, e_168_3, e_168_5, e_168_8, e_168_11, e_168_12, e_168_13, e_168_16, e_168_17, e_168_18, e_168_21, e_168_24, e_168_25, e_168_26, e_168_29, e_168_32, Option.bind_some, Option.bind_none, m_kt, m_kn, Option.toList_some, Option.toList_none, List.nil_append, List.cons_append, List.append_nil, ltn, ite_not, ↓reduceIte, true_or, or_true, nP1, oI_s, oI_n, bI_f, bI_t, i1_0, i0_0, Bool.false_eq_true, not_true_eq_false, not_false_eq_true, Zisc R, isAt_ev O d R (show q ≤ l by omega), c, cat_ref, gz9 R, pz9 R]
    · have c : atB B l q 32 32 = false := by unfold atB; rw [at_eq, decide_eq_false z, Bool.and_false]
      rw [if_neg (by rw [decide_eq_true_eq]; exact z)]
      simp only [e_168_1, e_168_3, e_168_5, e_168_8, e_168_11, e_168_12, e_168_13, e_168_16, e_168_17, e_168_18, e_168_21, e_168_24, e_168_25, e_168_26, e_168_29, e_168_32, Option.bind_some, Option.bind_none, m_kt, m_kn, Option.toList_some, Option.toList_none, List.nil_append, List.cons_append, List.append_nil, ltn, ite_not, ↓reduceIte, true_or, or_true, nP1, oI_s, oI_n, bI_f, bI_t, i1_0, i0_0, Bool.false_eq_true, not_true_eq_false, not_false_eq_true, Zisc R, isAt_ev O d R (show q ≤ l by omega), c, gz9 R, pz11 R]
theorem blanks_ev (O : mO) (d : Nat) (R : RZ h m l B) {q : Nat} (hq : q ≤ l) : ev O (d + 1) 168 0 [.ref 66] [] (hz h m (nI q) b dp st V) = some (.inl none, hz h m (nI (sb B l q)) (nI (sb B l q)) dp st V) := blanks_run O d R (l - q) q (by omega)
theorem letters_run (O : mO) (d : Nat) (R : RZ h m l B) : ∀ (k q : Nat), q + k = l → ev O (d + 1) 169 4 [.ref 66] [] (hz h m (nI q) b dp st V) = some (.inl none, hz h m (nI (skN (ltr B l) k q)) b dp st V) := by
  intro k
  induction k with
  | zero =>
    intro q hq
    have c : atB B l q 97 122 = false := by unfold atB; rw [decide_eq_false (by omega)]; rfl
    rw [e_169_4]
    simp only [e_169_0, e_169_1, e_169_5, e_169_7, e_169_9, e_169_12, e_169_15, e_169_16, e_169_17, e_169_20, e_169_21, e_169_22, e_169_25, e_169_28, Option.bind_some, Option.bind_none, m_kt, m_kn, Option.toList_some, Option.toList_none, List.nil_append, List.cons_append, List.append_nil, ltn, ite_not, ↓reduceIte, true_or, or_true, nP1, oI_s, oI_n, bI_f, bI_t, i1_0, i0_0, Bool.false_eq_true, not_true_eq_false, not_false_eq_true, Zisc R, isAt_ev O d R (show q ≤ l by omega), c]
    rfl
  | succ k ih =>
    intro q hq
    have c : atB B l q 97 122 = ltr B l q := rfl
    rw [e_169_4, skN_s]
    cases z : ltr B l q
    · simp only [e_169_0, e_169_1, e_169_5, e_169_7, e_169_9, e_169_12, e_169_15, e_169_16, e_169_17, e_169_20, e_169_21, e_169_22, e_169_25, e_169_28, Option.bind_some, Option.bind_none, m_kt, m_kn, Option.toList_some, Option.toList_none, List.nil_append, List.cons_append, List.append_nil, ltn, ite_not, ↓reduceIte, true_or, or_true, nP1, oI_s, oI_n, bI_f, bI_t, i1_0, i0_0, Bool.false_eq_true, not_true_eq_false, not_false_eq_true, Zisc R, isAt_ev O d R (show q ≤ l by omega), c, z]
    · rw [if_pos rfl, ← ih (q + 1) (by omega)]
      simp only [e_169_0, e_169_1, e_169_5, e_169_7, e_169_9, e_169_12, e_169_15, e_169_16, e_169_17, e_169_20, e_169_21, e_169_22, e_169_25, e_169_28, Option.bind_some, Option.bind_none, m_kt, m_kn, Option.toList_some, Option.toList_none, List.nil_append, List.cons_append, List.append_nil, ltn, ite_not, ↓reduceIte, true_or, or_true, nP1, oI_s, oI_n, bI_f, bI_t, i1_0, i0_0, Bool.false_eq_true, not_true_eq_false, not_false_eq_true, Zisc R, isAt_ev O d R (show q ≤ l by omega), c, z, cat_ref, gz9 R, pz9 R]
theorem letters_ev (O : mO) (d : Nat) (R : RZ h m l B) {q : Nat} (hq : q ≤ l) : ev O (d + 2) 169 0 [.ref 66] [] (hz h m (nI q) b dp st V) = some (.inl none, hz h m (nI (le' B l (sb B l q))) (nI (sb B l q)) dp st V) := by
  have h1 := sb_le (B := B) hq
  simp only [e_169_0, e_169_1, e_169_5, e_169_7, e_169_9, e_169_12, e_169_15, e_169_16, e_169_17, e_169_20, e_169_21, e_169_22, e_169_25, e_169_28, Option.bind_some, Option.bind_none, m_kt, m_kn, Option.toList_some, Option.toList_none, List.nil_append, List.cons_append, List.append_nil, ltn, ite_not, ↓reduceIte, true_or, or_true, nP1, oI_s, oI_n, bI_f, bI_t, i1_0, i0_0, Bool.false_eq_true, not_true_eq_false, not_false_eq_true, Zisc R, blanks_ev O d R hq]
  exact letters_run O (d + 1) R (l - sb B l q) (sb B l q) (by omega)
theorem isWord_ev (O : mO) (d : Nat) (R : RZ h m l B) {q : Nat} (hq : q ≤ l) {k : Nat} {s : List Nat} (X : TX O k s) (L : low s) : ev O (d + 5) 170 0 [.ref 66, .retAddr k, mJ, mJ] [] (hz h m (nI (le' B l q)) (nI q) dp st V) = some (.inl (some (.int (bI (wd B l q s)))), hz h m (nI (le' B l q)) (nI q) dp st V) := by
  have hl := R.2.2.2.2
  have g1 := le_ge B l q
  have g2 := le_le (B := B) hq
  have sl := L.2.1
  have su : nI (le' B l q) - nI q = nI (le' B l q - q) := pk_sub g1
  rw [← iw_wd L hq]
  by_cases c1 : le' B l q = q + s.length
  · have ce : nI (le' B l q - q) = nI s.length := by rw [c1, Nat.add_sub_cancel_left]
    have e := fd_run (F := fun i => ev O (d + 5) 170 24 [.ref 66, .retAddr k, .int 1, .int (nI i)] [] (hz h m (nI (le' B l q)) (nI q) dp st V)) (c := fun i => !decide (B (q + i) = nI (s.getD i 0))) (n := s.length) (r := fun _ => some (.inl (some (.int (0))), hz h m (nI (le' B l q)) (nI q) dp st V)) (fun i hi => by
      have n2 : ¬ nI s.length ≤ nI i := nI_ge hi (by omega)
      rw [e_170_24]
      by_cases c3 : B (q + i) = nI (s.getD i 0)
      · simp only [e_170_0, e_170_1, e_170_4, e_170_5, e_170_8, e_170_9, e_170_10, e_170_13, e_170_16, e_170_17, e_170_20, e_170_21, e_170_22, e_170_23, e_170_25, e_170_28, e_170_29, e_170_30, e_170_33, e_170_36, e_170_37, e_170_40, e_170_41, e_170_44, e_170_45, e_170_46, e_170_47, e_170_48, e_170_49, e_170_52, e_170_55, e_170_56, e_170_59, e_170_60, e_170_61, e_170_64, e_170_67, e_170_68, Option.bind_some, Option.bind_none, m_kt, m_kn, Option.toList_some, Option.toList_none, List.nil_append, List.cons_append, List.append_nil, ltn, ite_not, ↓reduceIte, true_or, or_true, nP1, oI_s, oI_n, bI_f, bI_t, i1_0, i0_0, Bool.false_eq_true, not_true_eq_false, not_false_eq_true, n2, gz7 R, gz11 R, nA, az71 R (show q + i < 400 by omega), X.1, len_ev O (d + 3) _ X, charAt_ev O d _ X L hi, c3, decide_true, Bool.not_true]
      · simp only [e_170_0, e_170_1, e_170_4, e_170_5, e_170_8, e_170_9, e_170_10, e_170_13, e_170_16, e_170_17, e_170_20, e_170_21, e_170_22, e_170_23, e_170_25, e_170_28, e_170_29, e_170_30, e_170_33, e_170_36, e_170_37, e_170_40, e_170_41, e_170_44, e_170_45, e_170_46, e_170_47, e_170_48, e_170_49, e_170_52, e_170_55, e_170_56, e_170_59, e_170_60, e_170_61, e_170_64, e_170_67, e_170_68, Option.bind_some, Option.bind_none, m_kt, m_kn, Option.toList_some, Option.toList_none, List.nil_append, List.cons_append, List.append_nil, ltn, ite_not, ↓reduceIte, true_or, or_true, nP1, oI_s, oI_n, bI_f, bI_t, i1_0, i0_0, Bool.false_eq_true, not_true_eq_false, not_false_eq_true, n2, gz7 R, gz11 R, nA, az71 R (show q + i < 400 by omega), X.1, len_ev O (d + 3) _ X, charAt_ev O d _ X L hi, c3, decide_false, Bool.not_false]
        rw [e_170_24]
        simp only [e_170_0, e_170_1, e_170_4, e_170_5, e_170_8, e_170_9, e_170_10, e_170_13, e_170_16, e_170_17, e_170_20, e_170_21, e_170_22, e_170_23, e_170_25, e_170_28, e_170_29, e_170_30, e_170_33, e_170_36, e_170_37, e_170_40, e_170_41, e_170_44, e_170_45, e_170_46, e_170_47, e_170_48, e_170_49, e_170_52, e_170_55, e_170_56, e_170_59, e_170_60, e_170_61, e_170_64, e_170_67, e_170_68, Option.bind_some, Option.bind_none, m_kt, m_kn, Option.toList_some, Option.toList_none, List.nil_append, List.cons_append, List.append_nil, ltn, ite_not, ↓reduceIte, true_or, or_true, nP1, oI_s, oI_n, bI_f, bI_t, i1_0, i0_0, Bool.false_eq_true, not_true_eq_false, not_false_eq_true, z01])
    simp only [nI_0] at e
    have e0 : ev O (d + 5) 170 0 [.ref 66, .retAddr k, mJ, mJ] [] (hz h m (nI (le' B l q)) (nI q) dp st V) = ev O (d + 5) 170 24 [.ref 66, .retAddr k, .int 1, .int 0] [] (hz h m (nI (le' B l q)) (nI q) dp st V) := by
      simp only [e_170_0, e_170_1, e_170_4, e_170_5, e_170_8, e_170_9, e_170_10, e_170_13, e_170_16, e_170_17, e_170_20, e_170_21, e_170_22, e_170_23, e_170_25, e_170_28, e_170_29, e_170_30, e_170_33, e_170_36, e_170_37, e_170_40, e_170_41, e_170_44, e_170_45, e_170_46, e_170_47, e_170_48, e_170_49, e_170_52, e_170_55, e_170_56, e_170_59, e_170_60, e_170_61, e_170_64, e_170_67, e_170_68, Option.bind_some, Option.bind_none, m_kt, m_kn, Option.toList_some, Option.toList_none, List.nil_append, List.cons_append, List.append_nil, ltn, ite_not, ↓reduceIte, true_or, or_true, nP1, oI_s, oI_n, bI_f, bI_t, i1_0, i0_0, Bool.false_eq_true, not_true_eq_false, not_false_eq_true, gz9 R, gz11 R, su, X.1, len_ev O (d + 3) _ X, ce]
    rw [e0, e, decide_eq_true c1]
    unfold mat
    cases hf : fd (fun i => !decide (B (q + i) = nI (s.getD i 0))) s.length with
    | some i => simp [bI]
    | none =>
      simp only [Option.isNone_none, Bool.and_self]
      rw [e_170_24]
      simp only [e_170_0, e_170_1, e_170_4, e_170_5, e_170_8, e_170_9, e_170_10, e_170_13, e_170_16, e_170_17, e_170_20, e_170_21, e_170_22, e_170_23, e_170_25, e_170_28, e_170_29, e_170_30, e_170_33, e_170_36, e_170_37, e_170_40, e_170_41, e_170_44, e_170_45, e_170_46, e_170_47, e_170_48, e_170_49, e_170_52, e_170_55, e_170_56, e_170_59, e_170_60, e_170_61, e_170_64, e_170_67, e_170_68, Option.bind_some, Option.bind_none, m_kt, m_kn, Option.toList_some, Option.toList_none, List.nil_append, List.cons_append, List.append_nil, ltn, ite_not, ↓reduceIte, true_or, or_true, nP1, oI_s, oI_n, bI_f, bI_t, i1_0, i0_0, Bool.false_eq_true, not_true_eq_false, not_false_eq_true, X.1, len_ev O (d + 3) _ X, Int32.le_refl, o01]
  · have ce : ¬ nI (le' B l q - q) = nI s.length := fun z => c1 (by have := (nI_eq (show le' B l q - q < 2 ^ 31 by omega) (show s.length < 2 ^ 31 by omega)).mp z; omega)
    rw [decide_eq_false c1, Bool.false_and]
    simp only [e_170_0, e_170_1, e_170_4, e_170_5, e_170_8, e_170_9, e_170_10, e_170_13, e_170_16, e_170_17, e_170_20, e_170_21, e_170_22, e_170_23, e_170_25, e_170_28, e_170_29, e_170_30, e_170_33, e_170_36, e_170_37, e_170_40, e_170_41, e_170_44, e_170_45, e_170_46, e_170_47, e_170_48, e_170_49, e_170_52, e_170_55, e_170_56, e_170_59, e_170_60, e_170_61, e_170_64, e_170_67, e_170_68, Option.bind_some, Option.bind_none, m_kt, m_kn, Option.toList_some, Option.toList_none, List.nil_append, List.cons_append, List.append_nil, ltn, ite_not, ↓reduceIte, true_or, or_true, nP1, oI_s, oI_n, bI_f, bI_t, i1_0, i0_0, Bool.false_eq_true, not_true_eq_false, not_false_eq_true, gz9 R, gz11 R, su, X.1, len_ev O (d + 3) _ X, ce]
    rw [e_170_24]
    simp only [e_170_0, e_170_1, e_170_4, e_170_5, e_170_8, e_170_9, e_170_10, e_170_13, e_170_16, e_170_17, e_170_20, e_170_21, e_170_22, e_170_23, e_170_25, e_170_28, e_170_29, e_170_30, e_170_33, e_170_36, e_170_37, e_170_40, e_170_41, e_170_44, e_170_45, e_170_46, e_170_47, e_170_48, e_170_49, e_170_52, e_170_55, e_170_56, e_170_59, e_170_60, e_170_61, e_170_64, e_170_67, e_170_68, Option.bind_some, Option.bind_none, m_kt, m_kn, Option.toList_some, Option.toList_none, List.nil_append, List.cons_append, List.append_nil, ltn, ite_not, ↓reduceIte, true_or, or_true, nP1, oI_s, oI_n, bI_f, bI_t, i1_0, i0_0, Bool.false_eq_true, not_true_eq_false, not_false_eq_true, z01]
theorem passes_ev (O : mO) (d : Nat) (R : RZ h m l B) {q : Nat} (hq : q ≤ l) {k : Nat} {s : List Nat} (X : TX O k s) (L : low s) : ev O (d + 6) 171 0 [.ref 66, .retAddr k] [] (hz h m (nI q) b dp st V) = if wd B l (sb B l q) s = true then some (.inl (some (.int (1))), hz h m (nI (sb B l q + s.length)) (nI (sb B l q)) dp st V) else some (.inl (some (.int (0))), hz h m (nI (sb B l q)) (nI (sb B l q)) dp st V) := by
  have h1 := sb_le (B := B) hq
  cases c : wd B l (sb B l q) s
  · simp only [e_171_0, e_171_1, e_171_4, e_171_5, e_171_6, e_171_9, e_171_12, e_171_13, e_171_14, e_171_15, e_171_16, e_171_19, e_171_22, e_171_23, Option.bind_some, Option.bind_none, m_kt, m_kn, Option.toList_some, Option.toList_none, List.nil_append, List.cons_append, List.append_nil, ltn, ite_not, ↓reduceIte, true_or, or_true, nP1, oI_s, oI_n, bI_f, bI_t, i1_0, i0_0, Bool.false_eq_true, not_true_eq_false, not_false_eq_true, Zisc R, letters_ev O (d + 3) R hq, isWord_ev O d R h1 X L, c, gz11 R, pz9 R, z01]
  · simp only [e_171_0, e_171_1, e_171_4, e_171_5, e_171_6, e_171_9, e_171_12, e_171_13, e_171_14, e_171_15, e_171_16, e_171_19, e_171_22, e_171_23, Option.bind_some, Option.bind_none, m_kt, m_kn, Option.toList_some, Option.toList_none, List.nil_append, List.cons_append, List.append_nil, ltn, ite_not, ↓reduceIte, true_or, or_true, nP1, oI_s, oI_n, bI_f, bI_t, i1_0, i0_0, Bool.false_eq_true, not_true_eq_false, not_false_eq_true, Zisc R, letters_ev O (d + 3) R hq, isWord_ev O d R h1 X L, c, o01]
    rw [(wd_le L c).1]
theorem sign_ev (O : mO) (d : Nat) (R : RZ h m l B) {q : Nat} (hq : q ≤ l) (c : Int32) : ev O (d + 2) 172 0 [.ref 66, .int c] [] (hz h m (nI q) b dp st V) = if sg B l q c = true then some (.inl (some (.int (1))), hz h m (nI (sb B l q + 1)) (nI (sb B l q)) dp st V) else some (.inl (some (.int (0))), hz h m (nI (sb B l q)) (nI (sb B l q)) dp st V) := by
  have h1 := sb_le (B := B) hq
  have e : atB B l (sb B l q) c c = sg B l q c := by unfold atB sg; rw [at_eq]
  cases z : sg B l q c
  · simp only [e_172_0, e_172_1, e_172_4, e_172_5, e_172_6, e_172_7, e_172_10, e_172_13, e_172_14, e_172_15, e_172_16, e_172_17, e_172_20, e_172_21, e_172_22, e_172_25, e_172_26, Option.bind_some, Option.bind_none, m_kt, m_kn, Option.toList_some, Option.toList_none, List.nil_append, List.cons_append, List.append_nil, ltn, ite_not, ↓reduceIte, true_or, or_true, nP1, oI_s, oI_n, bI_f, bI_t, i1_0, i0_0, Bool.false_eq_true, not_true_eq_false, not_false_eq_true, Zisc R, blanks_ev O d R hq, isAt_ev O (d + 1) R h1, e, z, z01]
  · simp only [e_172_0, e_172_1, e_172_4, e_172_5, e_172_6, e_172_7, e_172_10, e_172_13, e_172_14, e_172_15, e_172_16, e_172_17, e_172_20, e_172_21, e_172_22, e_172_25, e_172_26, Option.bind_some, Option.bind_none, m_kt, m_kn, Option.toList_some, Option.toList_none, List.nil_append, List.cons_append, List.append_nil, ltn, ite_not, ↓reduceIte, true_or, or_true, nP1, oI_s, oI_n, bI_f, bI_t, i1_0, i0_0, Bool.false_eq_true, not_true_eq_false, not_false_eq_true, Zisc R, blanks_ev O d R hq, isAt_ev O (d + 1) R h1, e, z, o01, cat_ref, gz9 R, pz9 R]
theorem number_run (O : mO) (d : Nat) (R : RZ h m l B) {q : Nat} (lo hi : Int32) : ∀ (k i : Nat), q + i + k = l → ev O (d + 1) 173 6 [.ref 66, .int lo, .int hi, .int (vlu B q (min 3 i))] [] (hz h m (nI (q + i)) (nI q) dp st V) = ev O (d + 1) 173 65 [.ref 66, .int lo, .int hi, .int (vlu B q (min 3 (skN (dgt B l) k (q + i) - q)))] [] (hz h m (nI (skN (dgt B l) k (q + i))) (nI q) dp st V) := by
  have hl := R.2.2.2.2
  intro k
  induction k with
  | zero =>
    intro i hi'
    have c : atB B l (q + i) 48 57 = false := by unfold atB; rw [decide_eq_false (by omega)]; rfl
    rw [e_173_6, show skN (dgt B l) 0 (q + i) = q + i from rfl, Nat.add_sub_cancel_left]
    simp only [e_173_0, e_173_1, e_173_4, e_173_5, e_173_7, e_173_9, e_173_11, e_173_14, e_173_17, e_173_18, e_173_21, e_173_22, e_173_25, e_173_26, e_173_27, e_173_30, e_173_32, e_173_33, e_173_34, e_173_35, e_173_38, e_173_39, e_173_42, e_173_43, e_173_44, e_173_46, e_173_47, e_173_50, e_173_51, e_173_52, e_173_53, e_173_54, e_173_57, e_173_58, e_173_59, e_173_62, e_173_66, e_173_69, e_173_70, e_173_73, e_173_76, e_173_77, e_173_80, e_173_81, e_173_84, e_173_85, e_173_86, e_173_89, e_173_90, e_173_91, e_173_94, e_173_95, e_173_96, e_173_99, e_173_100, e_173_103, e_173_104, Option.bind_some, Option.bind_none, m_kt, m_kn, Option.toList_some, Option.toList_none, List.nil_append, List.cons_append, List.append_nil, ltn, ite_not, ↓reduceIte, true_or, or_true, nP1, oI_s, oI_n, bI_f, bI_t, i1_0, i0_0, Bool.false_eq_true, not_true_eq_false, not_false_eq_true, Zisc R, isAt_ev O d R (show q + i ≤ l by omega), c]
  | succ k ih =>
    intro i hi'
    have c : atB B l (q + i) 48 57 = dgt B l (q + i) := rfl
    rw [skN_s]
    cases z : dgt B l (q + i)
    · rw [e_173_6]
      simp only [e_173_0, e_173_1, e_173_4, e_173_5, e_173_7, e_173_9, e_173_11, e_173_14, e_173_17, e_173_18, e_173_21, e_173_22, e_173_25, e_173_26, e_173_27, e_173_30, e_173_32, e_173_33, e_173_34, e_173_35, e_173_38, e_173_39, e_173_42, e_173_43, e_173_44, e_173_46, e_173_47, e_173_50, e_173_51, e_173_52, e_173_53, e_173_54, e_173_57, e_173_58, e_173_59, e_173_62, e_173_66, e_173_69, e_173_70, e_173_73, e_173_76, e_173_77, e_173_80, e_173_81, e_173_84, e_173_85, e_173_86, e_173_89, e_173_90, e_173_91, e_173_94, e_173_95, e_173_96, e_173_99, e_173_100, e_173_103, e_173_104, Option.bind_some, Option.bind_none, m_kt, m_kn, Option.toList_some, Option.toList_none, List.nil_append, List.cons_append, List.append_nil, ltn, ite_not, ↓reduceIte, true_or, or_true, nP1, oI_s, oI_n, bI_f, bI_t, i1_0, i0_0, Bool.false_eq_true, not_true_eq_false, not_false_eq_true, Zisc R, isAt_ev O d R (show q + i ≤ l by omega), c, z, Nat.add_sub_cancel_left]
    · rw [if_pos rfl, Nat.add_assoc q i 1, ← ih (i + 1) (by omega), e_173_6]
      have su : nI (q + i) - nI q = nI i := by rw [pk_sub (by omega), Nat.add_sub_cancel_left]
      by_cases y : i < 3
      · have n1 : ¬ (3 : Int32) ≤ nI i := nI_ge (b := 3) (by omega) (by omega)
        have m1 : min 3 i = i := by omega
        have m2 : min 3 (i + 1) = i + 1 := by omega
        have v1 : vlu B q (i + 1) = 10 * vlu B q i + B (q + i) - 48 := rfl
        simp only [e_173_0, e_173_1, e_173_4, e_173_5, e_173_7, e_173_9, e_173_11, e_173_14, e_173_17, e_173_18, e_173_21, e_173_22, e_173_25, e_173_26, e_173_27, e_173_30, e_173_32, e_173_33, e_173_34, e_173_35, e_173_38, e_173_39, e_173_42, e_173_43, e_173_44, e_173_46, e_173_47, e_173_50, e_173_51, e_173_52, e_173_53, e_173_54, e_173_57, e_173_58, e_173_59, e_173_62, e_173_66, e_173_69, e_173_70, e_173_73, e_173_76, e_173_77, e_173_80, e_173_81, e_173_84, e_173_85, e_173_86, e_173_89, e_173_90, e_173_91, e_173_94, e_173_95, e_173_96, e_173_99, e_173_100, e_173_103, e_173_104, Option.bind_some, Option.bind_none, m_kt, m_kn, Option.toList_some, Option.toList_none, List.nil_append, List.cons_append, List.append_nil, ltn, ite_not, ↓reduceIte, true_or, or_true, nP1, oI_s, oI_n, bI_f, bI_t, i1_0, i0_0, Bool.false_eq_true, not_true_eq_false, not_false_eq_true, Zisc R, isAt_ev O d R (show q + i ≤ l by omega), c, z, gz9 R, gz11 R, su, n1, gz7 R, az71 R (show q + i < 400 by omega), cat_ref, pz9 R, m1, m2, v1, Nat.add_assoc]
      · have n1 : (3 : Int32) ≤ nI i := nI_le (a := 3) (by omega) (by omega)
        have m1 : min 3 i = 3 := by omega
        have m2 : min 3 (i + 1) = 3 := by omega
        simp only [e_173_0, e_173_1, e_173_4, e_173_5, e_173_7, e_173_9, e_173_11, e_173_14, e_173_17, e_173_18, e_173_21, e_173_22, e_173_25, e_173_26, e_173_27, e_173_30, e_173_32, e_173_33, e_173_34, e_173_35, e_173_38, e_173_39, e_173_42, e_173_43, e_173_44, e_173_46, e_173_47, e_173_50, e_173_51, e_173_52, e_173_53, e_173_54, e_173_57, e_173_58, e_173_59, e_173_62, e_173_66, e_173_69, e_173_70, e_173_73, e_173_76, e_173_77, e_173_80, e_173_81, e_173_84, e_173_85, e_173_86, e_173_89, e_173_90, e_173_91, e_173_94, e_173_95, e_173_96, e_173_99, e_173_100, e_173_103, e_173_104, Option.bind_some, Option.bind_none, m_kt, m_kn, Option.toList_some, Option.toList_none, List.nil_append, List.cons_append, List.append_nil, ltn, ite_not, ↓reduceIte, true_or, or_true, nP1, oI_s, oI_n, bI_f, bI_t, i1_0, i0_0, Bool.false_eq_true, not_true_eq_false, not_false_eq_true, Zisc R, isAt_ev O d R (show q + i ≤ l by omega), c, z, gz9 R, gz11 R, su, n1, cat_ref, pz9 R, m1, m2, Nat.add_assoc]
theorem number_ev (O : mO) (d : Nat) (R : RZ h m l B) {q : Nat} (hq : q ≤ l) (lo hi : Int32) : ev O (d + 2) 173 0 [.ref 66, .int lo, .int hi, mJ] [] (hz h m (nI q) b dp st V) = (num B l q lo hi).elim (some (.inl (some (.int (-1))), hz h m (nI (de' B l (sb B l q))) (nI (sb B l q)) dp st V)) (fun x => some (.inl (some (.int (x.1))), hz h m (nI x.2) (nI (sb B l q)) dp st V)) := by
  have hl := R.2.2.2.2
  have h1 := sb_le (B := B) hq
  have nd := ndg_de (B := B) h1
  obtain ⟨a1, a2, -, -⟩ := skN_all (c := dgt B l) (l - sb B l q) (sb B l q)
  have e := number_run (dp := dp) (st := st) (V := V) O (d + 1) R (q := sb B l q) lo hi (l - sb B l q) 0 (by omega)
  simp only [Nat.add_zero, Nat.zero_le, Nat.min_eq_right] at e
  rw [show vlu B (sb B l q) 0 = 0 from rfl] at e
  have e0 : ev O (d + 2) 173 0 [.ref 66, .int lo, .int hi, mJ] [] (hz h m (nI q) b dp st V) = ev O (d + 2) 173 6 [.ref 66, .int lo, .int hi, .int 0] [] (hz h m (nI (sb B l q)) (nI (sb B l q)) dp st V) := by
    simp only [e_173_0, e_173_1, e_173_4, e_173_5, e_173_7, e_173_9, e_173_11, e_173_14, e_173_17, e_173_18, e_173_21, e_173_22, e_173_25, e_173_26, e_173_27, e_173_30, e_173_32, e_173_33, e_173_34, e_173_35, e_173_38, e_173_39, e_173_42, e_173_43, e_173_44, e_173_46, e_173_47, e_173_50, e_173_51, e_173_52, e_173_53, e_173_54, e_173_57, e_173_58, e_173_59, e_173_62, e_173_65, e_173_66, e_173_69, e_173_70, e_173_73, e_173_76, e_173_77, e_173_80, e_173_81, e_173_84, e_173_85, e_173_86, e_173_89, e_173_90, e_173_91, e_173_94, e_173_95, e_173_96, e_173_99, e_173_100, e_173_103, e_173_104, Option.bind_some, Option.bind_none, m_kt, m_kn, Option.toList_some, Option.toList_none, List.nil_append, List.cons_append, List.append_nil, ltn, ite_not, ↓reduceIte, true_or, or_true, nP1, oI_s, oI_n, bI_f, bI_t, i1_0, i0_0, Bool.false_eq_true, not_true_eq_false, not_false_eq_true, Zisc R, blanks_ev O d R hq]
  rw [e0, e]
  unfold num
  rw [nd]
  unfold de'
  generalize skN (dgt B l) (l - sb B l q) (sb B l q) = E at *
  have su : nI E - nI (sb B l q) = nI (E - sb B l q) := pk_sub a1
  by_cases z0 : E = sb B l q
  · rw [if_neg (fun k => by omega)]
    simp only [e_173_0, e_173_1, e_173_4, e_173_5, e_173_7, e_173_9, e_173_11, e_173_14, e_173_17, e_173_18, e_173_21, e_173_22, e_173_25, e_173_26, e_173_27, e_173_30, e_173_32, e_173_33, e_173_34, e_173_35, e_173_38, e_173_39, e_173_42, e_173_43, e_173_44, e_173_46, e_173_47, e_173_50, e_173_51, e_173_52, e_173_53, e_173_54, e_173_57, e_173_58, e_173_59, e_173_62, e_173_65, e_173_66, e_173_69, e_173_70, e_173_73, e_173_76, e_173_77, e_173_80, e_173_81, e_173_84, e_173_85, e_173_86, e_173_89, e_173_90, e_173_91, e_173_94, e_173_95, e_173_96, e_173_99, e_173_100, e_173_103, e_173_104, Option.bind_some, Option.bind_none, m_kt, m_kn, Option.toList_some, Option.toList_none, List.nil_append, List.cons_append, List.append_nil, ltn, ite_not, ↓reduceIte, true_or, or_true, nP1, oI_s, oI_n, bI_f, bI_t, i1_0, i0_0, Bool.false_eq_true, not_true_eq_false, not_false_eq_true, gz9 R, gz11 R, z0, Option.elim_none]
  · have n0 : ¬ nI E = nI (sb B l q) := fun z => z0 ((nI_eq (by omega) (by omega)).mp z)
    by_cases z3 : E - sb B l q ≤ 3
    · have n1 : nI (E - sb B l q) ≤ 3 := nI_le (b := 3) (by omega) (by omega)
      have m1 : min 3 (E - sb B l q) = E - sb B l q := by omega
      have m2 : min 4 (E - sb B l q) = E - sb B l q := by omega
      have m3 : sb B l q + (E - sb B l q) = E := by omega
      rw [m1, m2]
      by_cases c1 : lo ≤ vlu B (sb B l q) (E - sb B l q)
      · by_cases c2 : vlu B (sb B l q) (E - sb B l q) ≤ hi
        · rw [if_pos ⟨⟨by omega, z3⟩, c1, c2⟩]
          simp only [e_173_0, e_173_1, e_173_4, e_173_5, e_173_7, e_173_9, e_173_11, e_173_14, e_173_17, e_173_18, e_173_21, e_173_22, e_173_25, e_173_26, e_173_27, e_173_30, e_173_32, e_173_33, e_173_34, e_173_35, e_173_38, e_173_39, e_173_42, e_173_43, e_173_44, e_173_46, e_173_47, e_173_50, e_173_51, e_173_52, e_173_53, e_173_54, e_173_57, e_173_58, e_173_59, e_173_62, e_173_65, e_173_66, e_173_69, e_173_70, e_173_73, e_173_76, e_173_77, e_173_80, e_173_81, e_173_84, e_173_85, e_173_86, e_173_89, e_173_90, e_173_91, e_173_94, e_173_95, e_173_96, e_173_99, e_173_100, e_173_103, e_173_104, Option.bind_some, Option.bind_none, m_kt, m_kn, Option.toList_some, Option.toList_none, List.nil_append, List.cons_append, List.append_nil, ltn, ite_not, ↓reduceIte, true_or, or_true, nP1, oI_s, oI_n, bI_f, bI_t, i1_0, i0_0, Bool.false_eq_true, not_true_eq_false, not_false_eq_true, gz9 R, gz11 R, n0, su, n1, c1, c2, m3, Option.elim_some]
        · rw [if_neg (fun k => c2 k.2.2)]
          simp only [e_173_0, e_173_1, e_173_4, e_173_5, e_173_7, e_173_9, e_173_11, e_173_14, e_173_17, e_173_18, e_173_21, e_173_22, e_173_25, e_173_26, e_173_27, e_173_30, e_173_32, e_173_33, e_173_34, e_173_35, e_173_38, e_173_39, e_173_42, e_173_43, e_173_44, e_173_46, e_173_47, e_173_50, e_173_51, e_173_52, e_173_53, e_173_54, e_173_57, e_173_58, e_173_59, e_173_62, e_173_65, e_173_66, e_173_69, e_173_70, e_173_73, e_173_76, e_173_77, e_173_80, e_173_81, e_173_84, e_173_85, e_173_86, e_173_89, e_173_90, e_173_91, e_173_94, e_173_95, e_173_96, e_173_99, e_173_100, e_173_103, e_173_104, Option.bind_some, Option.bind_none, m_kt, m_kn, Option.toList_some, Option.toList_none, List.nil_append, List.cons_append, List.append_nil, ltn, ite_not, ↓reduceIte, true_or, or_true, nP1, oI_s, oI_n, bI_f, bI_t, i1_0, i0_0, Bool.false_eq_true, not_true_eq_false, not_false_eq_true, gz9 R, gz11 R, n0, su, n1, c1, c2, Option.elim_none]
      · rw [if_neg (fun k => c1 k.2.1)]
        simp only [e_173_0, e_173_1, e_173_4, e_173_5, e_173_7, e_173_9, e_173_11, e_173_14, e_173_17, e_173_18, e_173_21, e_173_22, e_173_25, e_173_26, e_173_27, e_173_30, e_173_32, e_173_33, e_173_34, e_173_35, e_173_38, e_173_39, e_173_42, e_173_43, e_173_44, e_173_46, e_173_47, e_173_50, e_173_51, e_173_52, e_173_53, e_173_54, e_173_57, e_173_58, e_173_59, e_173_62, e_173_65, e_173_66, e_173_69, e_173_70, e_173_73, e_173_76, e_173_77, e_173_80, e_173_81, e_173_84, e_173_85, e_173_86, e_173_89, e_173_90, e_173_91, e_173_94, e_173_95, e_173_96, e_173_99, e_173_100, e_173_103, e_173_104, Option.bind_some, Option.bind_none, m_kt, m_kn, Option.toList_some, Option.toList_none, List.nil_append, List.cons_append, List.append_nil, ltn, ite_not, ↓reduceIte, true_or, or_true, nP1, oI_s, oI_n, bI_f, bI_t, i1_0, i0_0, Bool.false_eq_true, not_true_eq_false, not_false_eq_true, gz9 R, gz11 R, n0, su, n1, c1, Option.elim_none]
    · have n1 : ¬ nI (E - sb B l q) ≤ 3 := nI_ge (a := 3) (by omega) (by omega)
      rw [if_neg (fun k => by omega)]
      simp only [e_173_0, e_173_1, e_173_4, e_173_5, e_173_7, e_173_9, e_173_11, e_173_14, e_173_17, e_173_18, e_173_21, e_173_22, e_173_25, e_173_26, e_173_27, e_173_30, e_173_32, e_173_33, e_173_34, e_173_35, e_173_38, e_173_39, e_173_42, e_173_43, e_173_44, e_173_46, e_173_47, e_173_50, e_173_51, e_173_52, e_173_53, e_173_54, e_173_57, e_173_58, e_173_59, e_173_62, e_173_65, e_173_66, e_173_69, e_173_70, e_173_73, e_173_76, e_173_77, e_173_80, e_173_81, e_173_84, e_173_85, e_173_86, e_173_89, e_173_90, e_173_91, e_173_94, e_173_95, e_173_96, e_173_99, e_173_100, e_173_103, e_173_104, Option.bind_some, Option.bind_none, m_kt, m_kn, Option.toList_some, Option.toList_none, List.nil_append, List.cons_append, List.append_nil, ltn, ite_not, ↓reduceIte, true_or, or_true, nP1, oI_s, oI_n, bI_f, bI_t, i1_0, i0_0, Bool.false_eq_true, not_true_eq_false, not_false_eq_true, gz9 R, gz11 R, n0, su, n1, Option.elim_none]
end TapeM
