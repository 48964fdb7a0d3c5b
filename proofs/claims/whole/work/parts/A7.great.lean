/-! The greatest round -/
theorem nI_uN (x : Int32) : nI (uN x) = x := by
  apply Int32.toBitVec_inj.mp
  apply BitVec.eq_of_toNat_eq
  exact Nat.mod_eq_of_lt (uN_lt x)
theorem uN_nI {n : Nat} (h : n < 4294967296) : uN (nI n) = n := Nat.mod_eq_of_lt h
theorem uN_sub30 {x : Int32} (h : sub 30 x) : uN x < 2 ^ 30 := by
  apply Nat.lt_pow_two_of_testBit
  intro i hi
  rcases Nat.lt_or_ge i 32 with c | c
  · exact h i c hi
  · exact b_big c
theorem fb_lo (p : Nat → Bool) (j : Nat) : ∀ i, fb_ct (fun k => p k && decide (fb_ct p k < j)) i = min j (fb_ct p i)
  | 0 => by simp [fb_ct]
  | i + 1 => by
    rw [fb_ct_succ, fb_lo p j i, fb_ct_succ]
    by_cases c : p i = true
    · by_cases c2 : fb_ct p i < j
      · simp only [c, c2, decide_true, Bool.and_true, ↓reduceIte]; omega
      · simp only [c, c2, decide_false, Bool.and_false, Bool.false_eq_true, ↓reduceIte]; omega
    · have c : p i = false := by simpa using c
      simp only [c, Bool.false_and, Bool.false_eq_true, ↓reduceIte, Nat.add_zero]
theorem fb_hi (p : Nat → Bool) (j : Nat) : ∀ i, fb_ct (fun k => p k && decide (j ≤ fb_ct p k)) i = fb_ct p i - j
  | 0 => by simp [fb_ct]
  | i + 1 => by
    rw [fb_ct_succ, fb_hi p j i, fb_ct_succ]
    by_cases c : p i = true
    · by_cases c2 : j ≤ fb_ct p i
      · simp only [c, c2, decide_true, Bool.and_true, ↓reduceIte]; omega
      · simp only [c, c2, decide_false, Bool.and_false, Bool.false_eq_true, ↓reduceIte]; omega
    · have c : p i = false := by simpa using c
      simp only [c, Bool.false_and, Bool.false_eq_true, ↓reduceIte, Nat.add_zero]
/-- the first ten -/
def fsT (cr : Int32) : Int32 := bs 32 (fun i => bt cr i && decide (fb_ct (bt cr) i < 10))
theorem bt_fsT (cr : Int32) {i : Nat} (hi : i < 32) : bt (fsT cr) i = (bt cr i && decide (fb_ct (bt cr) i < 10)) := by
  unfold fsT
  rw [bt_bs (Nat.le_refl _) _ hi, decide_eq_true hi, Bool.true_and]
theorem sub_fsT {n : Nat} {cr : Int32} (h : sub n cr) : sub n (fsT cr) := fun i hi q => by rw [bt_fsT cr hi, h i hi q, Bool.false_and]
theorem ct_fsT (cr : Int32) : ct (fsT cr) ≤ 10 := by
  unfold ct
  rw [fb_ct_cong (fun i hi => bt_fsT cr hi), fb_lo]
  omega
theorem firstOf_ev (O : mO) (d : Nat) (h : mH) (cr : Int32) : ev O (d) 69 0 [.int cr, .int 10, mJ, mJ] [] h = some (.inl (some (.int (fsT cr))), h) := by
  have e := lp_runI (fun j (s : Int32) => ∀ i, i < 32 → bt s i = (bt cr i && decide (j ≤ fb_ct (bt cr) i))) (F := fun j s => ev O (d) 69 4 [.int cr, .int 10, .int s, .int (nI j)] [] h) (f := fun _ s => s &&& (s - 1)) (n := 10) (s := cr) (fun i _ => by simp) (fun j s hj I => by
    have h1 : ¬ (10 : Int32) ≤ nI j := nI_ge (b := 10) hj (by omega)
    refine ⟨fun i hi => ?_, ?_⟩
    · rw [bt_low s hi, I i hi]
      have : fb_ct (bt s) i = fb_ct (bt cr) i - j := by
        rw [fb_ct_cong (fun k hk => I k (by omega)), fb_hi]
      rw [this]
      cases bt cr i
      · rfl
      · simp only [Bool.true_and]
        rw [← Bool.decide_and, decide_eq_decide]
        omega
    · rw [e_69_4]
      simp only [e_69_0, e_69_1, e_69_2, e_69_3, e_69_5, e_69_6, e_69_9, e_69_10, e_69_11, e_69_12, e_69_13, e_69_14, e_69_15, e_69_18, e_69_21, e_69_22, e_69_23, e_69_24, e_69_25, e_69_26, Option.bind_some, Option.bind_none, m_kt, m_kn, Option.toList_some, Option.toList_none, List.nil_append, List.cons_append, List.append_nil, ltn, ite_not, ↓reduceIte, true_or, or_true, nP1, oI_s, oI_n, bI_f, bI_t, i1_0, i0_0, Bool.false_eq_true, not_true_eq_false, not_false_eq_true, h1])
  obtain ⟨I, e⟩ := e
  simp only [nI_0] at e
  simp only [e_69_0, e_69_1, e_69_2, e_69_3, e_69_5, e_69_6, e_69_9, e_69_10, e_69_11, e_69_12, e_69_13, e_69_14, e_69_15, e_69_18, e_69_21, e_69_22, e_69_23, e_69_24, e_69_25, e_69_26, Option.bind_some, Option.bind_none, m_kt, m_kn, Option.toList_some, Option.toList_none, List.nil_append, List.cons_append, List.append_nil, ltn, ite_not, ↓reduceIte, true_or, or_true, nP1, oI_s, oI_n, bI_f, bI_t, i1_0, i0_0, Bool.false_eq_true, not_true_eq_false, not_false_eq_true]
  rw [e, e_69_4]
  simp only [e_69_0, e_69_1, e_69_2, e_69_3, e_69_5, e_69_6, e_69_9, e_69_10, e_69_11, e_69_12, e_69_13, e_69_14, e_69_15, e_69_18, e_69_21, e_69_22, e_69_23, e_69_24, e_69_25, e_69_26, Option.bind_some, Option.bind_none, m_kt, m_kn, Option.toList_some, Option.toList_none, List.nil_append, List.cons_append, List.append_nil, ltn, ite_not, ↓reduceIte, true_or, or_true, nP1, oI_s, oI_n, bI_f, bI_t, i1_0, i0_0, Bool.false_eq_true, not_true_eq_false, not_false_eq_true, (show ((10 : Int32) ≤ nI 10) = True by decide)]
  have : cr &&& (lp (fun _ s => s &&& (s - 1)) 10 cr ^^^ (-1)) = fsT cr := by
    apply b_ext
    intro i hi
    rw [b_and, bt_not _ hi, I i hi, bt_fsT cr hi]
    cases bt cr i
    · rfl
    · simp only [Bool.true_and]
      by_cases c : fb_ct (bt cr) i < 10
      · rw [decide_eq_true c, decide_eq_false (by omega)]; rfl
      · rw [decide_eq_false c, decide_eq_true (by omega)]; rfl
  rw [this]
def sz (u : Nat) : Nat := ct (nI u)
theorem sz_0 : sz 0 = 0 := by decide
theorem sz_pos {u : Nat} (h : 0 < u) (hu : u < 4294967296) : 0 < sz u := by
  unfold sz ct
  apply fb_ct_pos.mpr
  apply Classical.byContradiction
  intro q
  have z : nI u = 0 := bit_0.mpr (fun i hi => by
    cases e : bt (nI u) i
    · rfl
    · exact absurd ⟨i, hi, e⟩ q)
  have := congrArg uN z
  rw [uN_nI hu] at this
  have : u = 0 := this
  omega
def isG (C : Nat) (ok : Nat → Bool) (R : Nat) : Prop := (R = 0 ∨ (wi R C ∧ ok R = true)) ∧ ∀ s, wi s C → 0 < s → ok s = true → 0 < R ∧ (sz s < sz R ∨ (sz s = sz R ∧ R ≤ s))
theorem isG_one {C : Nat} {ok : Nat → Bool} {R R' : Nat} (a : isG C ok R) (b : isG C ok R') : R = R' := by
  rcases Nat.eq_zero_or_pos R with z | z
  · rcases Nat.eq_zero_or_pos R' with z' | z'
    · omega
    · rcases b.1 with q | q
      · omega
      · have := (a.2 R' q.1 z' q.2).1; omega
  · rcases a.1 with q | q
    · omega
    · have h1 := b.2 R q.1 z q.2
      rcases b.1 with q' | q'
      · omega
      · have h2 := a.2 R' q'.1 h1.1 q'.2
        omega
noncomputable def grN (C : Nat) (ok : Nat → Bool) : Nat := @dite _ (∃ R, isG C ok R) (Classical.propDecidable _) (fun q => q.choose) (fun _ => 0)
theorem grN_e {C : Nat} {ok : Nat → Bool} {R : Nat} (h : isG C ok R) : grN C ok = R := by
  unfold grN
  have q : ∃ R, isG C ok R := ⟨R, h⟩
  rw [dif_pos q]
  exact isG_one q.choose_spec h
def okS (w g : Nat) (br : Int32) (u : Nat) : Bool := wyB w g ((allI w g &&& (br ^^^ (-1))) &&& (nI u ^^^ (-1)))
noncomputable def grS (w g : Nat) (cr br : Int32) : Nat := grN (uN (fsT cr)) (okS w g br)
theorem wi_le {s c : Nat} (h : wi s c) : s ≤ c := by
  unfold wi at h
  rw [← h]
  exact Nat.and_le_right
theorem wi_bt {s c : Nat} (hs : s < 4294967296) (hc : c < 4294967296) : wi s c ↔ le32 (nI s) (nI c) := by
  constructor
  · intro h i hi b
    rw [bt_uN, uN_nI hs] at b
    rw [bt_uN, uN_nI hc]
    unfold wi at h
    rw [← h, Nat.testBit_and, Bool.and_eq_true] at b
    exact b.2
  · intro h
    unfold wi
    apply Nat.eq_of_testBit_eq
    intro i
    rw [Nat.testBit_and]
    rcases Nat.lt_or_ge i 32 with z | z
    · have := h i z
      rw [bt_uN, bt_uN, uN_nI hs, uN_nI hc] at this
      cases e : s.testBit i
      · rfl
      · rw [this e]; rfl
    · rw [Nat.testBit_lt_two_pow (Nat.lt_of_lt_of_le (show s < 2 ^ 32 from hs) (Nat.pow_le_pow_right (by omega) z))]
      rfl
/-- from the greatest down -/
def inM (C : Nat) (ok : Nat → Bool) (u b : Nat) : Prop := (b = 0 ∨ (wi b C ∧ ok b = true ∧ u < b)) ∧ ∀ s, wi s C → u < s → ok s = true → 0 < b ∧ (sz s < sz b ∨ (sz s = sz b ∧ b ≤ s))
theorem inM_s {C : Nat} (hC : C < 2 ^ 30) {ok : Nat → Bool} {u b : Nat} (hu : wi u C) (h0 : 0 < u) (h : inM C ok u b) : inM C ok ((u - 1) &&& C) (if ok u = true ∧ sz b ≤ sz u then u else b) := by
  have uC := wi_le hu
  have lt : (u - 1) &&& C < u := Nat.lt_of_le_of_lt Nat.and_le_left (by omega)
  have nx : ∀ s, wi s C → (u - 1) &&& C < s → u ≤ s := fun s hs q => by
    apply Classical.byContradiction
    intro z
    have a := vl_mono 32 C s u hs hu (by omega) (by omega)
    have b := vl_mono 32 C _ s (wi_and (u - 1) C) hs (by omega) q
    have c := vl_dec 32 C u hu (by omega) h0
    omega
  have su := sz_pos h0 (by omega)
  by_cases c : ok u = true ∧ sz b ≤ sz u
  · rw [if_pos c]
    refine ⟨.inr ⟨hu, c.1, lt⟩, fun s hs q ho => ⟨h0, ?_⟩⟩
    have := nx s hs q
    rcases Nat.lt_or_ge u s with z | z
    · have := h.2 s hs z ho
      omega
    · have : s = u := by omega
      subst this
      omega
  · rw [if_neg c]
    refine ⟨?_, fun s hs q ho => ?_⟩
    · rcases h.1 with z | z
      · exact .inl z
      · exact .inr ⟨z.1, z.2.1, by omega⟩
    · have := nx s hs q
      rcases Nat.lt_or_ge u s with z | z
      · exact h.2 s hs z ho
      · have e : s = u := by omega
        subst e
        have l : sz s < sz b := by
          rcases Nat.lt_or_ge (sz s) (sz b) with y | y
          · exact y
          · exact absurd ⟨ho, y⟩ c
        refine ⟨?_, .inl l⟩
        rcases Nat.eq_zero_or_pos b with y | y
        · subst y; rw [sz_0] at l; omega
        · exact y
/-- from the least up -/
def inK (C : Nat) (ok : Nat → Bool) (u b : Nat) : Prop := (b = 0 ∨ (wi b C ∧ ok b = true ∧ b ≤ u)) ∧ ∀ s, wi s C → 0 < s → s ≤ u → ok s = true → 0 < b ∧ (sz s < sz b ∨ (sz s = sz b ∧ b ≤ s))
theorem inK_s {C : Nat} (hC : C < 2 ^ 30) {ok : Nat → Bool} {u b : Nat} (hu : wi u C) (hl : u < C) (h : inK C ok u b) : inK C ok ((u + 2 ^ 32 - C) &&& C) (if sz b < sz ((u + 2 ^ 32 - C) &&& C) ∧ ok ((u + 2 ^ 32 - C) &&& C) = true then (u + 2 ^ 32 - C) &&& C else b) ∧ u < (u + 2 ^ 32 - C) &&& C := by
  have e := vl_inc 32 C u hu (by omega) hl
  have wn := wi_and (u + 2 ^ 32 - C) C
  generalize (u + 2 ^ 32 - C) &&& C = n at *
  have lt : u < n := by
    apply Classical.byContradiction
    intro z
    rcases Nat.lt_or_ge n u with y | y
    · have := vl_mono 32 C n u wn hu (by omega) y; omega
    · have : n = u := by omega
      subst this; omega
  have nx : ∀ s, wi s C → s ≤ n → s ≤ u ∨ s = n := fun s hs q => by
    apply Classical.byContradiction
    intro z
    have a := vl_mono 32 C u s hu hs (by omega) (by omega)
    have b := vl_mono 32 C s n hs wn (by omega) (by omega)
    omega
  have nC := wi_le wn
  have sn := sz_pos (show 0 < n by omega) (by omega)
  refine ⟨?_, lt⟩
  by_cases c : sz b < sz n ∧ ok n = true
  · rw [if_pos c]
    refine ⟨.inr ⟨wn, c.2, Nat.le_refl _⟩, fun s hs h0 q ho => ⟨by omega, ?_⟩⟩
    rcases nx s hs q with z | z
    · have := h.2 s hs h0 z ho
      omega
    · subst z; omega
  · rw [if_neg c]
    refine ⟨?_, fun s hs h0 q ho => ?_⟩
    · rcases h.1 with z | z
      · exact .inl z
      · exact .inr ⟨z.1, z.2.1, by omega⟩
    · rcases nx s hs q with z | z
      · exact h.2 s hs h0 z ho
      · subst z
        have l : sz s ≤ sz b := by
          rcases Nat.lt_or_ge (sz b) (sz s) with y | y
          · exact absurd ⟨y, ho⟩ c
          · exact y
        have bp : 0 < b := by
          rcases Nat.eq_zero_or_pos b with y | y
          · subst y; rw [sz_0] at l; omega
          · exact y
        refine ⟨bp, ?_⟩
        rcases h.1 with y | y
        · omega
        · omega
section GreatM
variable {h : mH} {W : WD}
theorem broken_ev (O : mO) (d : Nat) (H : MW h W) (R : rng W) : ev O (d + 2) 243 0 [.ref 66, mJ, mJ] [] h = some (.inl (some (.int (wcS W 3))), h) := by
  have hN := pN_le R
  have e := lp_run (F := fun i s => ev O (d + 2) 243 4 [.ref 66, .int s, .int (nI i)] [] h) (f := fun p s => if brk W p = true then s ||| shl1 p else s) (n := pN W) (fun i s hi => by
    have h1 : ¬ nI (pN W) ≤ nI i := nI_ge hi (by omega)
    rw [e_243_4]
    cases hc : brk W i <;> simp only [e_243_0, e_243_1, e_243_2, e_243_3, e_243_5, e_243_6, e_243_9, e_243_12, e_243_13, e_243_14, e_243_15, e_243_18, e_243_21, e_243_22, e_243_23, e_243_24, e_243_27, e_243_28, e_243_29, e_243_30, e_243_33, e_243_36, e_243_37, Option.bind_some, Option.bind_none, m_kt, m_kn, Option.toList_some, Option.toList_none, List.nil_append, List.cons_append, List.append_nil, ltn, ite_not, ↓reduceIte, true_or, or_true, nP1, oI_s, oI_n, bI_f, bI_t, i1_0, i0_0, Bool.false_eq_true, not_true_eq_false, not_false_eq_true, H.1, panes_ev O (d + 1) H R, h1, isBr_ev O d H (show i < 30 by omega), hc, or_0, shl_nI]) 0
  simp only [nI_0] at e
  simp only [e_243_0, e_243_1, e_243_2, e_243_3, e_243_5, e_243_6, e_243_9, e_243_12, e_243_13, e_243_14, e_243_15, e_243_18, e_243_21, e_243_22, e_243_23, e_243_24, e_243_27, e_243_28, e_243_29, e_243_30, e_243_33, e_243_36, e_243_37, Option.bind_some, Option.bind_none, m_kt, m_kn, Option.toList_some, Option.toList_none, List.nil_append, List.cons_append, List.append_nil, ltn, ite_not, ↓reduceIte, true_or, or_true, nP1, oI_s, oI_n, bI_f, bI_t, i1_0, i0_0, Bool.false_eq_true, not_true_eq_false, not_false_eq_true]
  rw [e, e_243_4]
  simp only [e_243_0, e_243_1, e_243_2, e_243_3, e_243_5, e_243_6, e_243_9, e_243_12, e_243_13, e_243_14, e_243_15, e_243_18, e_243_21, e_243_22, e_243_23, e_243_24, e_243_27, e_243_28, e_243_29, e_243_30, e_243_33, e_243_36, e_243_37, Option.bind_some, Option.bind_none, m_kt, m_kn, Option.toList_some, Option.toList_none, List.nil_append, List.cons_append, List.append_nil, ltn, ite_not, ↓reduceIte, true_or, or_true, nP1, oI_s, oI_n, bI_f, bI_t, i1_0, i0_0, Bool.false_eq_true, not_true_eq_false, not_false_eq_true, H.1, panes_ev O (d + 1) H R, Int32.le_refl]
  have : lp (fun p s => if brk W p = true then s ||| shl1 p else s) (pN W) 0 = wcS W 3 := by
    unfold wcS
    exact lp_congr (fun i s hi => by simp only [brk_le R (show i < 30 by omega)]) 0
  rw [this]
theorem mayClose_ev (O : mO) (d : Nat) (H : MW h W) (R : rng W) (s : Int32) : ev O (d + 4) 244 0 [.ref 66, .int s] [] h = some (.inl (some (.int (bI (okS (wN W) (gN W) (wcS W 3) (uN s))))), h) := by
  have hN := pN_le R
  have e : (allI (wN W) (gN W) &&& (s ^^^ (-1))) &&& (wcS W 3 ^^^ (-1)) = (allI (wN W) (gN W) &&& (wcS W 3 ^^^ (-1))) &&& (s ^^^ (-1)) := by
    apply b_ext
    intro i hi
    rw [b_and, b_and, b_and, b_and]
    cases bt (allI (wN W) (gN W)) i <;> cases bt (s ^^^ (-1)) i <;> cases bt (wcS W 3 ^^^ (-1)) i <;> rfl
  unfold okS
  rw [nI_uN]
  have hs : sub (wN W * gN W) ((allI (wN W) (gN W) &&& (wcS W 3 ^^^ (-1))) &&& (s ^^^ (-1))) := sub_and (sub_and (sub_all (show wN W * gN W < 31 by unfold pN at hN; omega)))
  simp only [e_244_0, e_244_1, e_244_2, e_244_5, e_244_6, e_244_7, e_244_8, e_244_9, e_244_10, e_244_13, e_244_14, e_244_15, e_244_16, e_244_19, Option.bind_some, Option.bind_none, m_kt, m_kn, Option.toList_some, Option.toList_none, List.nil_append, List.cons_append, List.append_nil, ltn, ite_not, ↓reduceIte, true_or, or_true, nP1, oI_s, oI_n, bI_f, bI_t, i1_0, i0_0, Bool.false_eq_true, not_true_eq_false, not_false_eq_true, H.1, all_ev O (d + 2) H R, broken_ev O (d + 1) H R, e, misWay_ev O d H R hs, bI_01]
theorem rn_a (O : mO) (d : Nat) (H : MW h W) (R : rng W) : ev O (d + 5) 246 0 [.ref 66, mJ, mJ, mJ, mJ] [] h = ev O (d + 5) 246 46 [.ref 66, .int (fsT (wcS W 1)), .int (nI (pN W)), mJ, mJ] [] h := by
  have hN := pN_le R
  have cb : ∀ i, i < pN W → bt (wcS W 1) i = crk W i := fun i hi => by
    rw [wcS_bs, bt_bs (by omega) _ (by omega), decide_eq_true hi, Bool.true_and]
    rfl
  have e := lp_runI (fun p (s : Int32) => ∀ i, i < 32 → bt s i = (decide (i < p) && bt (fsT (wcS W 1)) i)) (F := fun p s => ev O (d + 5) 246 4 [.ref 66, .int s, .int (nI p), mJ, mJ] [] h) (f := fun p s => if crk W p = true ∧ ct s < 10 then s ||| shl1 p else s) (n := pN W) (s := 0) (fun i _ => by rw [b_0]; simp) (fun p s hp I => by
    have h1 : ¬ nI (pN W) ≤ nI p := nI_ge hp (by omega)
    have cs : ct s = min 10 (fb_ct (bt (wcS W 1)) p) := by
      unfold ct
      have : fb_ct (bt s) 32 = fb_ct (bt (fsT (wcS W 1))) p := by
        rw [fb_ct_cong (fun i hi => I i hi), show 32 = p + (32 - p) by omega, fb_ct_split]
        have z : fb_ct (fun k => decide (p + k < p) && bt (fsT (wcS W 1)) (p + k)) (32 - p) = 0 := fb_ct_zero.mpr (fun i hi => by rw [decide_eq_false (by omega), Bool.false_and])
        rw [z, Nat.add_zero]
        exact fb_ct_cong (fun i hi => by rw [decide_eq_true hi, Bool.true_and])
      rw [this, fb_ct_cong (fun i hi => bt_fsT (wcS W 1) (show i < 32 by omega)), fb_lo]
    have hx : bt (fsT (wcS W 1)) p = (crk W p && decide (ct s < 10)) := by
      rw [bt_fsT _ (by omega), cb p hp, cs]
      congr 1
      rw [decide_eq_decide]; omega
    refine ⟨fun i hi => ?_, ?_⟩
    · by_cases z : i = p
      · subst z
        have hd : decide (i < i + 1) = true := decide_eq_true (by omega)
        rw [hd, Bool.true_and, hx]
        by_cases c : crk W i = true ∧ ct s < 10
        · rw [if_pos c, b_or, bt_shl1 (by omega) hi, c.1, decide_eq_true c.2]; simp
        · rw [if_neg c, I i hi, decide_eq_false (by omega), Bool.false_and]
          cases e : crk W i
          · rfl
          · rw [decide_eq_false (fun q => c ⟨e, q⟩)]; rfl
      · have hd : decide (i < p + 1) = decide (i < p) := by rw [decide_eq_decide]; omega
        rw [hd, ← I i hi]
        split
        · rw [b_or, bt_shl1 (by omega) hi, decide_eq_false z, Bool.or_false]
        · rfl
    · have cl := ct_le s
      have c10 : ((10 : Int32) ≤ nI (ct s)) = ¬ (ct s < 10) := by
        have := nLe (a := 10) (b := ct s) (by omega) (by omega)
        rw [show nI 10 = 10 from rfl] at this
        rw [this]; apply propext; omega
      have m5 : (1 ≤ W (7 + 6 * p + 3)) = (crk W p = true) := by unfold crk; rw [decide_eq_true_eq]
      rw [e_246_4]
      cases c : crk W p
      · simp only [e_246_0, e_246_1, e_246_2, e_246_3, e_246_5, e_246_6, e_246_9, e_246_12, e_246_13, e_246_14, e_246_15, e_246_16, e_246_19, e_246_22, e_246_23, e_246_26, e_246_28, e_246_31, e_246_32, e_246_33, e_246_34, e_246_37, e_246_38, e_246_39, e_246_40, e_246_43, e_246_46, e_246_47, e_246_48, e_246_49, e_246_50, e_246_51, e_246_54, e_246_55, e_246_58, e_246_59, e_246_62, e_246_63, e_246_65, e_246_67, e_246_70, e_246_72, e_246_75, e_246_76, e_246_77, e_246_80, e_246_81, e_246_82, e_246_85, e_246_88, e_246_91, e_246_92, e_246_93, e_246_94, e_246_95, e_246_96, e_246_97, e_246_98, e_246_99, e_246_102, e_246_103, Option.bind_some, Option.bind_none, m_kt, m_kn, Option.toList_some, Option.toList_none, List.nil_append, List.cons_append, List.append_nil, ltn, ite_not, ↓reduceIte, true_or, or_true, nP1, oI_s, oI_n, bI_f, bI_t, i1_0, i0_0, Bool.false_eq_true, not_true_eq_false, not_false_eq_true, H.1, panes_ev O (d + 4) H R, h1, of3_ev O (d + 4) H (show p < 30 by omega), nle01, m5, c, or_0, false_and]
      · by_cases c2 : ct s < 10 <;> simp only [e_246_0, e_246_1, e_246_2, e_246_3, e_246_5, e_246_6, e_246_9, e_246_12, e_246_13, e_246_14, e_246_15, e_246_16, e_246_19, e_246_22, e_246_23, e_246_26, e_246_28, e_246_31, e_246_32, e_246_33, e_246_34, e_246_37, e_246_38, e_246_39, e_246_40, e_246_43, e_246_46, e_246_47, e_246_48, e_246_49, e_246_50, e_246_51, e_246_54, e_246_55, e_246_58, e_246_59, e_246_62, e_246_63, e_246_65, e_246_67, e_246_70, e_246_72, e_246_75, e_246_76, e_246_77, e_246_80, e_246_81, e_246_82, e_246_85, e_246_88, e_246_91, e_246_92, e_246_93, e_246_94, e_246_95, e_246_96, e_246_97, e_246_98, e_246_99, e_246_102, e_246_103, Option.bind_some, Option.bind_none, m_kt, m_kn, Option.toList_some, Option.toList_none, List.nil_append, List.cons_append, List.append_nil, ltn, ite_not, ↓reduceIte, true_or, or_true, nP1, oI_s, oI_n, bI_f, bI_t, i1_0, i0_0, Bool.false_eq_true, not_true_eq_false, not_false_eq_true, H.1, panes_ev O (d + 4) H R, h1, of3_ev O (d + 4) H (show p < 30 by omega), nle01, m5, c, bitCount_ev, bc_ct, c10, c2, or_0, shl_nI, true_and])
  obtain ⟨I, e⟩ := e
  have es : lp (fun p s => if crk W p = true ∧ ct s < 10 then s ||| shl1 p else s) (pN W) 0 = fsT (wcS W 1) := by
    apply b_ext
    intro i hi
    rw [I i hi]
    by_cases z : i < pN W
    · rw [decide_eq_true z, Bool.true_and]
    · rw [decide_eq_false z, Bool.false_and, bt_fsT _ hi, wcS_bs, bt_bs (by omega) _ hi, decide_eq_false z, Bool.false_and, Bool.false_and]
  rw [es] at e
  simp only [nI_0] at e
  simp only [e_246_0, e_246_1, e_246_2, e_246_3, e_246_5, e_246_6, e_246_9, e_246_12, e_246_13, e_246_14, e_246_15, e_246_16, e_246_19, e_246_22, e_246_23, e_246_26, e_246_28, e_246_31, e_246_32, e_246_33, e_246_34, e_246_37, e_246_38, e_246_39, e_246_40, e_246_43, e_246_47, e_246_48, e_246_49, e_246_50, e_246_51, e_246_54, e_246_55, e_246_58, e_246_59, e_246_62, e_246_63, e_246_65, e_246_67, e_246_70, e_246_72, e_246_75, e_246_76, e_246_77, e_246_80, e_246_81, e_246_82, e_246_85, e_246_88, e_246_91, e_246_92, e_246_93, e_246_94, e_246_95, e_246_96, e_246_97, e_246_98, e_246_99, e_246_102, e_246_103, Option.bind_some, Option.bind_none, m_kt, m_kn, Option.toList_some, Option.toList_none, List.nil_append, List.cons_append, List.append_nil, ltn, ite_not, ↓reduceIte, true_or, or_true, nP1, oI_s, oI_n, bI_f, bI_t, i1_0, i0_0, Bool.false_eq_true, not_true_eq_false, not_false_eq_true]
  rw [e, e_246_4]
  simp only [e_246_0, e_246_1, e_246_2, e_246_3, e_246_5, e_246_6, e_246_9, e_246_12, e_246_13, e_246_14, e_246_15, e_246_16, e_246_19, e_246_22, e_246_23, e_246_26, e_246_28, e_246_31, e_246_32, e_246_33, e_246_34, e_246_37, e_246_38, e_246_39, e_246_40, e_246_43, e_246_47, e_246_48, e_246_49, e_246_50, e_246_51, e_246_54, e_246_55, e_246_58, e_246_59, e_246_62, e_246_63, e_246_65, e_246_67, e_246_70, e_246_72, e_246_75, e_246_76, e_246_77, e_246_80, e_246_81, e_246_82, e_246_85, e_246_88, e_246_91, e_246_92, e_246_93, e_246_94, e_246_95, e_246_96, e_246_97, e_246_98, e_246_99, e_246_102, e_246_103, Option.bind_some, Option.bind_none, m_kt, m_kn, Option.toList_some, Option.toList_none, List.nil_append, List.cons_append, List.append_nil, ltn, ite_not, ↓reduceIte, true_or, or_true, nP1, oI_s, oI_n, bI_f, bI_t, i1_0, i0_0, Bool.false_eq_true, not_true_eq_false, not_false_eq_true, H.1, panes_ev O (d + 4) H R, Int32.le_refl]
theorem roundNow_ev (O : mO) (d : Nat) (H : MW h W) (R : rng W) : ev O (d + 5) 246 0 [.ref 66, mJ, mJ, mJ, mJ] [] h = some (.inl (some (.int (nI (grS (wN W) (gN W) (wcS W 1) (wcS W 3))))), h) := by
  have hN := pN_le R
  rw [rn_a O d H R]
  have sC : sub 30 (fsT (wcS W 1)) := sub_fsT (by rw [wcS_bs]; exact sub_bs (by omega) (by omega) _)
  have hC := uN_sub30 sC
  have key : ∀ k u b v, vl 32 (uN (fsT (wcS W 1))) u ≤ k → wi u (uN (fsT (wcS W 1))) → b < 2 ^ 30 → inM (uN (fsT (wcS W 1))) (okS (wN W) (gN W) (wcS W 3)) u b → ev O (d + 5) 246 50 [.ref 66, .int (fsT (wcS W 1)), .int (nI b), .int (nI u), v] [] h = some (.inl (some (.int (nI (grS (wN W) (gN W) (wcS W 1) (wcS W 3))))), h) := by
    intro k
    generalize hCe : uN (fsT (wcS W 1)) = C at *
    have fe : fsT (wcS W 1) = nI C := by rw [← hCe, nI_uN]
    have gr : grS (wN W) (gN W) (wcS W 1) (wcS W 3) = grN C (okS (wN W) (gN W) (wcS W 3)) := by unfold grS; rw [hCe]
    rw [gr, fe]
    have fin : ∀ b v, inM C (okS (wN W) (gN W) (wcS W 3)) 0 b → ev O (d + 5) 246 50 [.ref 66, .int (nI C), .int (nI b), .int 0, v] [] h = some (.inl (some (.int (nI (grN C (okS (wN W) (gN W) (wcS W 3)))))), h) := fun b v I => by
      have : isG C (okS (wN W) (gN W) (wcS W 3)) b := ⟨I.1.elim .inl (fun q => .inr ⟨q.1, q.2.1⟩), I.2⟩
      rw [grN_e this, e_246_50]
      simp only [e_246_0, e_246_1, e_246_2, e_246_3, e_246_4, e_246_5, e_246_6, e_246_9, e_246_12, e_246_13, e_246_14, e_246_15, e_246_16, e_246_19, e_246_22, e_246_23, e_246_26, e_246_28, e_246_31, e_246_32, e_246_33, e_246_34, e_246_37, e_246_38, e_246_39, e_246_40, e_246_43, e_246_46, e_246_47, e_246_48, e_246_49, e_246_51, e_246_54, e_246_55, e_246_58, e_246_59, e_246_62, e_246_63, e_246_65, e_246_67, e_246_70, e_246_72, e_246_75, e_246_76, e_246_77, e_246_80, e_246_81, e_246_82, e_246_85, e_246_88, e_246_91, e_246_92, e_246_93, e_246_94, e_246_95, e_246_96, e_246_97, e_246_98, e_246_99, e_246_102, e_246_103, Option.bind_some, Option.bind_none, m_kt, m_kn, Option.toList_some, Option.toList_none, List.nil_append, List.cons_append, List.append_nil, ltn, ite_not, ↓reduceIte, true_or, or_true, nP1, oI_s, oI_n, bI_f, bI_t, i1_0, i0_0, Bool.false_eq_true, not_true_eq_false, not_false_eq_true, Int32.le_refl]
    induction k with
    | zero =>
      intro u b v hk hu hb I
      have z : u = 0 := vl_inj hu (by unfold wi; rw [Nat.zero_and]) (by omega : C < 2 ^ 32) (by rw [vl_0]; omega)
      subst z
      exact fin b v I
    | succ k ih =>
      intro u b v hk hu hb I
      rcases Nat.eq_zero_or_pos u with z | z
      · subst z; exact fin b v I
      · have uC := wi_le hu
        have st := inM_s hC hu z I
        have vd := vl_dec 32 C u hu (by omega) z
        have z0 : (nI u ≤ 0) = False := by rw [nle0 (by omega)]; exact eq_false (by omega)
        have en : (nI u - 1) &&& nI C = nI ((u - 1) &&& C) := by
          rw [n_1, pk_sub (by omega), ← nI_uN (nI (u - 1) &&& nI C), uN_and, uN_nI (by omega), uN_nI (by omega)]
        have sl := ct_le (nI u)
        have sb := ct_le (nI b)
        have e1 : (0 ≤ nI (ct (nI u)) - nI (ct (nI b))) = (ct (nI b) ≤ ct (nI u)) := by
          apply propext
          rw [i_le, pk_sub_toInt (by omega) (by omega), k0]; omega
        have e2 : (nI (ct (nI u)) - nI (ct (nI b)) = 0) = (ct (nI u) = ct (nI b)) := by
          apply propext
          rw [← Int32.toInt_inj, pk_sub_toInt (by omega) (by omega), k0]; omega
        have e3 : (nI u ≤ nI b) = (u ≤ b) := nLe (by omega) (by omega)
        have ok := mayClose_ev O d H R (nI u)
        rw [uN_nI (by omega)] at ok
        have lt' : ct (nI u) = ct (nI b) → u ≤ b := fun q => by
          have sp := sz_pos z (show u < 4294967296 by omega)
          rcases I.1 with y | y
          · subst y
            have : ct (nI 0) = 0 := sz_0
            unfold sz at sp
            omega
          · omega
        rw [e_246_50]
        by_cases c1 : ct (nI b) ≤ ct (nI u)
        · cases c2 : okS (wN W) (gN W) (wcS W 3) u
          · rw [if_neg (fun q => by rw [c2] at q; cases q.1)] at st
            have nx := ih ((u - 1) &&& C) b (.int (nI (ct (nI u)) - nI (ct (nI b)))) (by omega) (wi_and _ _) hb st
            rw [← nx]
            by_cases c3 : ct (nI u) = ct (nI b)
            · simp only [e_246_0, e_246_1, e_246_2, e_246_3, e_246_4, e_246_5, e_246_6, e_246_9, e_246_12, e_246_13, e_246_14, e_246_15, e_246_16, e_246_19, e_246_22, e_246_23, e_246_26, e_246_28, e_246_31, e_246_32, e_246_33, e_246_34, e_246_37, e_246_38, e_246_39, e_246_40, e_246_43, e_246_46, e_246_47, e_246_48, e_246_49, e_246_51, e_246_54, e_246_55, e_246_58, e_246_59, e_246_62, e_246_63, e_246_65, e_246_67, e_246_70, e_246_72, e_246_75, e_246_76, e_246_77, e_246_80, e_246_81, e_246_82, e_246_85, e_246_88, e_246_91, e_246_92, e_246_93, e_246_94, e_246_95, e_246_96, e_246_97, e_246_98, e_246_99, e_246_102, e_246_103, Option.bind_some, Option.bind_none, m_kt, m_kn, Option.toList_some, Option.toList_none, List.nil_append, List.cons_append, List.append_nil, ltn, ite_not, ↓reduceIte, true_or, or_true, nP1, oI_s, oI_n, bI_f, bI_t, i1_0, i0_0, Bool.false_eq_true, not_true_eq_false, not_false_eq_true, z0, bitCount_ev, bc_ct, e1, e2, e3, c1, eq_true c3, lt' c3, H.1, ok, c2, en]
            · simp only [e_246_0, e_246_1, e_246_2, e_246_3, e_246_4, e_246_5, e_246_6, e_246_9, e_246_12, e_246_13, e_246_14, e_246_15, e_246_16, e_246_19, e_246_22, e_246_23, e_246_26, e_246_28, e_246_31, e_246_32, e_246_33, e_246_34, e_246_37, e_246_38, e_246_39, e_246_40, e_246_43, e_246_46, e_246_47, e_246_48, e_246_49, e_246_51, e_246_54, e_246_55, e_246_58, e_246_59, e_246_62, e_246_63, e_246_65, e_246_67, e_246_70, e_246_72, e_246_75, e_246_76, e_246_77, e_246_80, e_246_81, e_246_82, e_246_85, e_246_88, e_246_91, e_246_92, e_246_93, e_246_94, e_246_95, e_246_96, e_246_97, e_246_98, e_246_99, e_246_102, e_246_103, Option.bind_some, Option.bind_none, m_kt, m_kn, Option.toList_some, Option.toList_none, List.nil_append, List.cons_append, List.append_nil, ltn, ite_not, ↓reduceIte, true_or, or_true, nP1, oI_s, oI_n, bI_f, bI_t, i1_0, i0_0, Bool.false_eq_true, not_true_eq_false, not_false_eq_true, z0, bitCount_ev, bc_ct, e1, e2, e3, c1, eq_false c3, H.1, ok, c2, en]
          · rw [if_pos ⟨c2, c1⟩] at st
            have nx := ih ((u - 1) &&& C) u (.int (nI (ct (nI u)) - nI (ct (nI b)))) (by omega) (wi_and _ _) (by omega) st
            rw [← nx]
            by_cases c3 : ct (nI u) = ct (nI b)
            · simp only [e_246_0, e_246_1, e_246_2, e_246_3, e_246_4, e_246_5, e_246_6, e_246_9, e_246_12, e_246_13, e_246_14, e_246_15, e_246_16, e_246_19, e_246_22, e_246_23, e_246_26, e_246_28, e_246_31, e_246_32, e_246_33, e_246_34, e_246_37, e_246_38, e_246_39, e_246_40, e_246_43, e_246_46, e_246_47, e_246_48, e_246_49, e_246_51, e_246_54, e_246_55, e_246_58, e_246_59, e_246_62, e_246_63, e_246_65, e_246_67, e_246_70, e_246_72, e_246_75, e_246_76, e_246_77, e_246_80, e_246_81, e_246_82, e_246_85, e_246_88, e_246_91, e_246_92, e_246_93, e_246_94, e_246_95, e_246_96, e_246_97, e_246_98, e_246_99, e_246_102, e_246_103, Option.bind_some, Option.bind_none, m_kt, m_kn, Option.toList_some, Option.toList_none, List.nil_append, List.cons_append, List.append_nil, ltn, ite_not, ↓reduceIte, true_or, or_true, nP1, oI_s, oI_n, bI_f, bI_t, i1_0, i0_0, Bool.false_eq_true, not_true_eq_false, not_false_eq_true, z0, bitCount_ev, bc_ct, e1, e2, e3, c1, eq_true c3, lt' c3, H.1, ok, c2, en]
            · simp only [e_246_0, e_246_1, e_246_2, e_246_3, e_246_4, e_246_5, e_246_6, e_246_9, e_246_12, e_246_13, e_246_14, e_246_15, e_246_16, e_246_19, e_246_22, e_246_23, e_246_26, e_246_28, e_246_31, e_246_32, e_246_33, e_246_34, e_246_37, e_246_38, e_246_39, e_246_40, e_246_43, e_246_46, e_246_47, e_246_48, e_246_49, e_246_51, e_246_54, e_246_55, e_246_58, e_246_59, e_246_62, e_246_63, e_246_65, e_246_67, e_246_70, e_246_72, e_246_75, e_246_76, e_246_77, e_246_80, e_246_81, e_246_82, e_246_85, e_246_88, e_246_91, e_246_92, e_246_93, e_246_94, e_246_95, e_246_96, e_246_97, e_246_98, e_246_99, e_246_102, e_246_103, Option.bind_some, Option.bind_none, m_kt, m_kn, Option.toList_some, Option.toList_none, List.nil_append, List.cons_append, List.append_nil, ltn, ite_not, ↓reduceIte, true_or, or_true, nP1, oI_s, oI_n, bI_f, bI_t, i1_0, i0_0, Bool.false_eq_true, not_true_eq_false, not_false_eq_true, z0, bitCount_ev, bc_ct, e1, e2, e3, c1, eq_false c3, H.1, ok, c2, en]
        · rw [if_neg (fun q => c1 q.2)] at st
          have nx := ih ((u - 1) &&& C) b (.int (nI (ct (nI u)) - nI (ct (nI b)))) (by omega) (wi_and _ _) hb st
          rw [← nx]
          simp only [e_246_0, e_246_1, e_246_2, e_246_3, e_246_4, e_246_5, e_246_6, e_246_9, e_246_12, e_246_13, e_246_14, e_246_15, e_246_16, e_246_19, e_246_22, e_246_23, e_246_26, e_246_28, e_246_31, e_246_32, e_246_33, e_246_34, e_246_37, e_246_38, e_246_39, e_246_40, e_246_43, e_246_46, e_246_47, e_246_48, e_246_49, e_246_51, e_246_54, e_246_55, e_246_58, e_246_59, e_246_62, e_246_63, e_246_65, e_246_67, e_246_70, e_246_72, e_246_75, e_246_76, e_246_77, e_246_80, e_246_81, e_246_82, e_246_85, e_246_88, e_246_91, e_246_92, e_246_93, e_246_94, e_246_95, e_246_96, e_246_97, e_246_98, e_246_99, e_246_102, e_246_103, Option.bind_some, Option.bind_none, m_kt, m_kn, Option.toList_some, Option.toList_none, List.nil_append, List.cons_append, List.append_nil, ltn, ite_not, ↓reduceIte, true_or, or_true, nP1, oI_s, oI_n, bI_f, bI_t, i1_0, i0_0, Bool.false_eq_true, not_true_eq_false, not_false_eq_true, z0, bitCount_ev, bc_ct, e1, c1, en]
  have e := key _ (uN (fsT (wcS W 1))) 0 mJ (Nat.le_refl _) (by unfold wi; rw [Nat.and_self]) (by omega) ⟨.inl rfl, fun s hs q _ => by have := wi_le hs; omega⟩
  rw [nI_uN] at e
  simp only [nI_0] at e
  simp only [e_246_0, e_246_1, e_246_2, e_246_3, e_246_4, e_246_5, e_246_6, e_246_9, e_246_12, e_246_13, e_246_14, e_246_15, e_246_16, e_246_19, e_246_22, e_246_23, e_246_26, e_246_28, e_246_31, e_246_32, e_246_33, e_246_34, e_246_37, e_246_38, e_246_39, e_246_40, e_246_43, e_246_46, e_246_47, e_246_48, e_246_49, e_246_51, e_246_54, e_246_55, e_246_58, e_246_59, e_246_62, e_246_63, e_246_65, e_246_67, e_246_70, e_246_72, e_246_75, e_246_76, e_246_77, e_246_80, e_246_81, e_246_82, e_246_85, e_246_88, e_246_91, e_246_92, e_246_93, e_246_94, e_246_95, e_246_96, e_246_97, e_246_98, e_246_99, e_246_102, e_246_103, Option.bind_some, Option.bind_none, m_kt, m_kn, Option.toList_some, Option.toList_none, List.nil_append, List.cons_append, List.append_nil, ltn, ite_not, ↓reduceIte, true_or, or_true, nP1, oI_s, oI_n, bI_f, bI_t, i1_0, i0_0, Bool.false_eq_true, not_true_eq_false, not_false_eq_true]
  exact e
end GreatM
