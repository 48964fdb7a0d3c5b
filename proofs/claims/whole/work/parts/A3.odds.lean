/-! Chances, odds, how they spread -/
def clI (e : Int) : Nat := (min 100 (max 0 e)).toNat
theorem clI_le (e : Int) : clI e ≤ 100 := by unfold clI; omega
def chE (W : WD) (p : Nat) : Int := -3 * (W (7 + 6 * p + 1)).toInt - (W (7 + 6 * p)).toInt
def chN (W : WD) (p : Nat) : Nat := clI (chE W p)
theorem k100 : (100 : Int32).toInt = 100 := by decide
theorem k0 : (0 : Int32).toInt = 0 := by decide
theorem cl_c (e : Int32) : (if (if e ≤ 100 then e else 100) ≤ 0 then 0 else (if e ≤ 100 then e else 100)) = nI (clI e.toInt) := by
  apply Int32.toInt_inj.mp
  have := clI_le e.toInt
  rw [nI_toInt (by omega)]
  unfold clI
  by_cases c : e ≤ 100
  · simp only [c, ↓reduceIte]
    rw [i_le, k100] at c
    split
    · rename_i q; rw [i_le, k0] at q; rw [k0]; omega
    · rename_i q; rw [i_le, k0] at q; omega
  · simp only [c, ↓reduceIte]
    rw [i_le, k100] at c
    rw [if_neg (by decide), k100]
    omega
theorem cl_m (e : Int32) : (if 100 ≤ (if e ≤ 0 then 0 else e) then 100 else (if e ≤ 0 then 0 else e)) = nI (clI e.toInt) := by
  apply Int32.toInt_inj.mp
  have := clI_le e.toInt
  rw [nI_toInt (by omega)]
  unfold clI
  by_cases c : e ≤ 0
  · simp only [c, ↓reduceIte]
    rw [i_le, k0] at c
    rw [if_neg (by decide), k0]
    omega
  · simp only [c, ↓reduceIte]
    rw [i_le, k0] at c
    split
    · rename_i q; rw [i_le, k100] at q; rw [k100]; omega
    · rename_i q; rw [i_le, k100] at q; omega
theorem ch_c {W : WD} (R : rng W) {p : Nat} (hp : p < 30) : (3 * -W (7 + 6 * p + 1) - W (7 + 6 * p)).toInt = chE W p := by
  obtain ⟨ht, hh, -⟩ := rP R hp
  unfold bd at ht hh
  have a : (-W (7 + 6 * p + 1)).toInt = -(W (7 + 6 * p + 1)).toInt := fb_negI (by omega)
  have k3 : (3 : Int32).toInt = 3 := by decide
  have b : (3 * -W (7 + 6 * p + 1)).toInt = 3 * -(W (7 + 6 * p + 1)).toInt := by rw [fb_mulI (by rw [a, k3]; omega) (by rw [a, k3]; omega), a, k3]
  unfold chE
  rw [fb_subI (by omega) (by omega), b]
  omega
theorem ch_m {W : WD} (R : rng W) {p : Nat} (hp : p < 30) : (-3 * W (7 + 6 * p + 1) - W (7 + 6 * p)).toInt = chE W p := by
  obtain ⟨ht, hh, -⟩ := rP R hp
  unfold bd at ht hh
  have k3 : (-3 : Int32).toInt = -3 := by decide
  have b : (-3 * W (7 + 6 * p + 1)).toInt = -3 * (W (7 + 6 * p + 1)).toInt := by rw [fb_mulI (by rw [k3]; omega) (by rw [k3]; omega), k3]
  unfold chE
  rw [fb_subI (by omega) (by omega), b]
def riB (W : WD) (p : Nat) : Bool := !decide (0 ≤ W (7 + 6 * p + 1)) && !brk W p
def odS (W : WD) : Int64 := lp (fun p v => if riB W p = true then v * (100 - nI (chN W p)).toInt64 / 100 else v) (pN W) 1000000000
theorem zL100 : ((100 : Int64) = 0) = False := by decide
section OddsC
variable {h : mH} {a : Nat} {W : WD}
theorem chance_ev (O : mO) (d : Nat) (H : CA h a W) (R : rng W) {p : Nat} (hp : p < 30) : ev O (d) 33 0 [.ref a, .int (nI p), mJ] [] h = some (.inl (some (.int (nI (chN W p)))), h) := by
  unfold chN
  rw [← ch_c R hp, ← cl_c]
  simp only [e_33_0, e_33_1, e_33_2, e_33_5, e_33_6, e_33_7, e_33_8, e_33_9, e_33_10, e_33_13, e_33_14, e_33_15, e_33_16, e_33_17, e_33_18, e_33_19, e_33_21, e_33_24, e_33_27, Option.bind_some, Option.bind_none, m_kt, m_kn, Option.toList_some, Option.toList_none, List.nil_append, List.cons_append, List.append_nil, ltn, ite_not, ↓reduceIte, true_or, or_true, gC7 H, gC6 H, H.t1 hp, H.t0 hp]
theorem isAtRisk_ev (O : mO) (d : Nat) (H : CA h a W) (R : rng W) {p : Nat} (hp : p < 30) : ev O (d) 32 0 [.ref a, .int (nI p)] [] h = some (.inl (some (.int (bI (riB W p)))), h) := by
  unfold riB
  by_cases c : 0 ≤ W (7 + 6 * p + 1)
  · simp only [e_32_0, e_32_1, e_32_4, e_32_5, e_32_6, e_32_9, e_32_10, e_32_13, e_32_14, e_32_15, e_32_16, e_32_19, e_32_20, e_32_23, e_32_24, Option.bind_some, Option.bind_none, m_kt, m_kn, Option.toList_some, Option.toList_none, List.nil_append, List.cons_append, List.append_nil, ltn, ite_not, ↓reduceIte, true_or, or_true, nP1, oI_s, oI_n, bI_f, bI_t, i1_0, i0_0, Bool.false_eq_true, not_true_eq_false, not_false_eq_true, gC7 H, H.t1 hp, c, z01, decide_true, Bool.not_true, Bool.false_and]
  · cases c2 : brk W p <;> simp only [e_32_0, e_32_1, e_32_4, e_32_5, e_32_6, e_32_9, e_32_10, e_32_13, e_32_14, e_32_15, e_32_16, e_32_19, e_32_20, e_32_23, e_32_24, Option.bind_some, Option.bind_none, m_kt, m_kn, Option.toList_some, Option.toList_none, List.nil_append, List.cons_append, List.append_nil, ltn, ite_not, ↓reduceIte, true_or, or_true, nP1, oI_s, oI_n, bI_f, bI_t, i1_0, i0_0, Bool.false_eq_true, not_true_eq_false, not_false_eq_true, gC7 H, gC9 H, H.t1 hp, H.t3 hp, brk_le R hp, c, c2, z01, o01, decide_false, Bool.not_false, Bool.not_true, Bool.true_and]
theorem allHold_ev (O : mO) (d : Nat) (H : CA h a W) (R : rng W) : ev O (d + 1) 34 0 [.ref a, mJ, mJ, mJ] [] h = some (.inl (some (.int ((odS W).toInt32))), h) := by
  have hN := pN_le R
  have e := lp_run (F := fun i s => ev O (d + 1) 34 6 [.ref a, .long s, mJ, .int (nI i)] [] h) (f := fun p v => if riB W p = true then v * (100 - nI (chN W p)).toInt64 / 100 else v) (n := pN W) (fun i s hi => by
    have h1 : ¬ nI (pN W) ≤ nI i := nI_ge hi (by omega)
    rw [e_34_6]
    cases hc : riB W i <;> simp only [e_34_0, e_34_3, e_34_4, e_34_5, e_34_5I, e_34_5A, e_34_5O, e_34_7, e_34_8, e_34_11, e_34_14, e_34_15, e_34_16, e_34_19, e_34_22, e_34_23, e_34_25, e_34_26, e_34_27, e_34_30, e_34_31, e_34_32, e_34_33, e_34_36, e_34_37, e_34_38, e_34_38I, e_34_38A, e_34_38O, e_34_41, e_34_44, e_34_45, e_34_46, Option.bind_some, Option.bind_none, m_kt, m_kn, Option.toList_some, Option.toList_none, List.nil_append, List.cons_append, List.append_nil, ltn, ite_not, ↓reduceIte, true_or, or_true, nP1, oI_s, oI_n, bI_f, bI_t, i1_0, i0_0, Bool.false_eq_true, not_true_eq_false, not_false_eq_true, gC2 H, h1, isAtRisk_ev O d H R (show i < 30 by omega), chance_ev O d H R (show i < 30 by omega), hc, zL100]) 1000000000
  simp only [nI_0] at e
  simp only [e_34_0, e_34_3, e_34_4, e_34_5, e_34_5I, e_34_5A, e_34_5O, e_34_7, e_34_8, e_34_11, e_34_14, e_34_15, e_34_16, e_34_19, e_34_22, e_34_23, e_34_25, e_34_26, e_34_27, e_34_30, e_34_31, e_34_32, e_34_33, e_34_36, e_34_37, e_34_38, e_34_38I, e_34_38A, e_34_38O, e_34_41, e_34_44, e_34_45, e_34_46, Option.bind_some, Option.bind_none, m_kt, m_kn, Option.toList_some, Option.toList_none, List.nil_append, List.cons_append, List.append_nil, ltn, ite_not, ↓reduceIte, true_or, or_true, nP1, oI_s, oI_n, bI_f, bI_t, i1_0, i0_0, Bool.false_eq_true, not_true_eq_false, not_false_eq_true]
  rw [e, e_34_6]
  simp only [e_34_0, e_34_3, e_34_4, e_34_5, e_34_5I, e_34_5A, e_34_5O, e_34_7, e_34_8, e_34_11, e_34_14, e_34_15, e_34_16, e_34_19, e_34_22, e_34_23, e_34_25, e_34_26, e_34_27, e_34_30, e_34_31, e_34_32, e_34_33, e_34_36, e_34_37, e_34_38, e_34_38I, e_34_38A, e_34_38O, e_34_41, e_34_44, e_34_45, e_34_46, Option.bind_some, Option.bind_none, m_kt, m_kn, Option.toList_some, Option.toList_none, List.nil_append, List.cons_append, List.append_nil, ltn, ite_not, ↓reduceIte, true_or, or_true, nP1, oI_s, oI_n, bI_f, bI_t, i1_0, i0_0, Bool.false_eq_true, not_true_eq_false, not_false_eq_true, gC2 H, Int32.le_refl]
  rfl
end OddsC
section OddsM
variable {h : mH} {m : Nat → Int32} {W : WD}
theorem mchance_ev (O : mO) (d : Nat) (H : MW h W) (R : rng W) {p : Nat} (hp : p < 30) : ev O (d + 1) 238 0 [.ref 66, .int (nI p)] [] h = some (.inl (some (.int (nI (chN W p)))), h) := by
  unfold chN
  rw [← ch_m R hp, ← cl_m]
  simp only [e_238_0, e_238_2, e_238_3, e_238_5, e_238_6, e_238_7, e_238_8, e_238_11, e_238_12, e_238_13, e_238_14, e_238_15, e_238_18, e_238_19, e_238_22, e_238_25, Option.bind_some, Option.bind_none, m_kt, m_kn, Option.toList_some, Option.toList_none, List.nil_append, List.cons_append, List.append_nil, ltn, ite_not, ↓reduceIte, true_or, or_true, H.1, of0_ev O d H hp, of1_ev O d H hp]
theorem Modds_ev (O : mO) (d : Nat) (H : MS h m W) (R : rng W) : MA (ev O (d + 2) 240 0 [.ref 66, mJ, mJ, mJ] [] h) h m 0 (.int (odS W).toInt32) := by
  have H0 := H.t 0
  have hN := pN_le R
  refine ⟨tH h m 0, ?_, sc.rf _⟩
  have e := lp_run (F := fun i s => ev O (d + 2) 240 11 [.ref 66, .long s, mJ, .int (nI i)] [] (tH h m 0)) (f := fun p v => if riB W p = true then v * (100 - nI (chN W p)).toInt64 / 100 else v) (n := pN W) (fun i s hi => by
    have h1 : ¬ nI (pN W) ≤ nI i := nI_ge hi (by omega)
    have hi3 : i < 30 := by omega
    rw [e_240_11]
    unfold riB
    cases c2 : brk W i
    · by_cases c : 0 ≤ W (7 + 6 * i + 1) <;> simp only [e_240_0, e_240_1, e_240_2, e_240_5, e_240_8, e_240_9, e_240_10, e_240_10I, e_240_10A, e_240_10O, e_240_12, e_240_13, e_240_16, e_240_19, e_240_20, e_240_21, e_240_24, e_240_27, e_240_28, e_240_29, e_240_30, e_240_33, e_240_36, e_240_37, e_240_39, e_240_40, e_240_41, e_240_44, e_240_45, e_240_46, e_240_47, e_240_50, e_240_51, e_240_52, e_240_52I, e_240_52A, e_240_52O, e_240_55, e_240_58, e_240_59, e_240_60, Option.bind_some, Option.bind_none, m_kt, m_kn, Option.toList_some, Option.toList_none, List.nil_append, List.cons_append, List.append_nil, ltn, ite_not, ↓reduceIte, true_or, or_true, nP1, oI_s, oI_n, bI_f, bI_t, i1_0, i0_0, Bool.false_eq_true, not_true_eq_false, not_false_eq_true, H0.isc, panes_ev O (d + 1) H0.w R, h1, isBr_ev O d H0.w hi3, of1_ev O (d + 1) H0.w hi3, mchance_ev O d H0.w R hi3, c2, c, zL100, decide_true, decide_false, Bool.not_true, Bool.not_false, Bool.false_and, Bool.true_and]
    · simp only [e_240_0, e_240_1, e_240_2, e_240_5, e_240_8, e_240_9, e_240_10, e_240_10I, e_240_10A, e_240_10O, e_240_12, e_240_13, e_240_16, e_240_19, e_240_20, e_240_21, e_240_24, e_240_27, e_240_28, e_240_29, e_240_30, e_240_33, e_240_36, e_240_37, e_240_39, e_240_40, e_240_41, e_240_44, e_240_45, e_240_46, e_240_47, e_240_50, e_240_51, e_240_52, e_240_52I, e_240_52A, e_240_52O, e_240_55, e_240_58, e_240_59, e_240_60, Option.bind_some, Option.bind_none, m_kt, m_kn, Option.toList_some, Option.toList_none, List.nil_append, List.cons_append, List.append_nil, ltn, ite_not, ↓reduceIte, true_or, or_true, nP1, oI_s, oI_n, bI_f, bI_t, i1_0, i0_0, Bool.false_eq_true, not_true_eq_false, not_false_eq_true, H0.isc, panes_ev O (d + 1) H0.w R, h1, isBr_ev O d H0.w hi3, c2, Bool.not_true, Bool.and_false]) 1000000000
  simp only [nI_0] at e
  simp only [e_240_0, e_240_1, e_240_2, e_240_5, e_240_8, e_240_9, e_240_10, e_240_10I, e_240_10A, e_240_10O, e_240_12, e_240_13, e_240_16, e_240_19, e_240_20, e_240_21, e_240_24, e_240_27, e_240_28, e_240_29, e_240_30, e_240_33, e_240_36, e_240_37, e_240_39, e_240_40, e_240_41, e_240_44, e_240_45, e_240_46, e_240_47, e_240_50, e_240_51, e_240_52, e_240_52I, e_240_52A, e_240_52O, e_240_55, e_240_58, e_240_59, e_240_60, Option.bind_some, Option.bind_none, m_kt, m_kn, Option.toList_some, Option.toList_none, List.nil_append, List.cons_append, List.append_nil, ltn, ite_not, ↓reduceIte, true_or, or_true, nP1, oI_s, oI_n, bI_f, bI_t, i1_0, i0_0, Bool.false_eq_true, not_true_eq_false, not_false_eq_true, pMt H]
  rw [e, e_240_11]
  simp only [e_240_0, e_240_1, e_240_2, e_240_5, e_240_8, e_240_9, e_240_10, e_240_10I, e_240_10A, e_240_10O, e_240_12, e_240_13, e_240_16, e_240_19, e_240_20, e_240_21, e_240_24, e_240_27, e_240_28, e_240_29, e_240_30, e_240_33, e_240_36, e_240_37, e_240_39, e_240_40, e_240_41, e_240_44, e_240_45, e_240_46, e_240_47, e_240_50, e_240_51, e_240_52, e_240_52I, e_240_52A, e_240_52O, e_240_55, e_240_58, e_240_59, e_240_60, Option.bind_some, Option.bind_none, m_kt, m_kn, Option.toList_some, Option.toList_none, List.nil_append, List.cons_append, List.append_nil, ltn, ite_not, ↓reduceIte, true_or, or_true, nP1, oI_s, oI_n, bI_f, bI_t, i1_0, i0_0, Bool.false_eq_true, not_true_eq_false, not_false_eq_true, H0.isc, panes_ev O (d + 1) H0.w R, Int32.le_refl]
  rfl
end OddsM
theorem Godds_ev {h : mH} {g : gT} {W : WD} (O : mO) (d : Nat) (C : CG h g W) : GA (ev O (d + 2) 132 0 [.ref 0] [] h) h none (.int (odS W).toInt32) := by
  obtain ⟨G, H, ga, R, S⟩ := C
  refine ⟨h, ?_, sc.rf h⟩
  simp only [e_132_0, e_132_1, e_132_4, e_132_7, Option.bind_some, Option.bind_none, m_kt, m_kn, Option.toList_some, Option.toList_none, List.nil_append, List.cons_append, List.append_nil, ltn, ite_not, ↓reduceIte, true_or, or_true, nP1, oI_s, oI_n, bI_f, bI_t, i1_0, i0_0, Bool.false_eq_true, not_true_eq_false, not_false_eq_true, gG0 G, allHold_ev O d H R]
/-- one more pane that may crack -/
def sdN (c : Nat) (r : Nat → Nat) : Nat → Nat := fun k => r k * (100 - c) / 100 + (if k = 0 then 0 else r (k - 1) * c / 100)
def sdF (W : WD) : Nat → (Nat → Nat) → (Nat → Nat) := fun p r => if riB W p = true then sdN (chN W p) r else r
def sd0 : Nat → Nat := fun k => if k = 0 then 1000000000 else 0
def sdS (W : WD) (n : Nat) : Nat → Nat := lp (sdF W) n sd0
theorem sdN_b {c : Nat} (hc : c ≤ 100) {r : Nat → Nat} (h : ∀ k, r k ≤ 1000000000) (k : Nat) : sdN c r k ≤ 1000000000 := by
  unfold sdN
  have a : r k * (100 - c) ≤ 1000000000 * (100 - c) := Nat.mul_le_mul_right _ (h k)
  have b : r (k - 1) * c ≤ 1000000000 * c := Nat.mul_le_mul_right _ (h (k - 1))
  split <;> omega
theorem sdS_b (W : WD) : ∀ n k, sdS W n k ≤ 1000000000
  | 0, k => by unfold sdS sd0; rw [lp_0]; split <;> omega
  | n + 1, k => by
    have ih := sdS_b W n
    unfold sdS at *
    rw [lp_s]
    unfold sdF at *
    split
    · exact sdN_b (clI_le _) ih k
    · exact ih k
theorem sdS_0 (W : WD) : ∀ n k, n < k → sdS W n k = 0
  | 0, k, h => by unfold sdS sd0; rw [lp_0, if_neg (by omega)]
  | n + 1, k, h => by
    have i1 := sdS_0 W n k (by omega)
    have i2 := sdS_0 W n (k - 1) (by omega)
    have e : sdS W (n + 1) = sdF W n (sdS W n) := rfl
    rw [e, sdF]
    split
    · rw [sdN, i1, i2]; simp
    · exact i1
def sprV (W : WD) (x : Int32) : Int32 := if inB x 0 30 = true then nI (sdS W (pN W) x.toNatClampNeg) else 0
theorem sc_L {h : mH} {b n : Nat} (f : Nat → Int64) (hb : (b = 64 ∧ n = 64) ∨ (b = 65 ∧ n = 31)) : sc h (h.1.set b (aL n f), h.2) := by
  refine ⟨out.st h _ (by rcases hb with ⟨rfl, -⟩ | ⟨rfl, -⟩ <;> rfl), fun S => ⟨fun b' n' m => ?_, ?_, ?_, ?_, ?_, ?_, ?_⟩⟩
  · obtain ⟨f, e⟩ := S.1 b' n' m
    have t := tab_ne m
    exact ⟨f, (hne (by omega)).trans e⟩
  · exact S.2.1.elim fun s e => ⟨s, (hne (by omega)).trans e⟩
  · exact S.2.2.1.elim fun x e => e.elim fun y e => e.elim fun z e => ⟨x, y, z, (hne (by omega)).trans e⟩
  · exact S.2.2.2.1.elim fun s e => ⟨s, (hne (by omega)).trans e⟩
  · obtain ⟨s, e⟩ := S.2.2.2.2.1
    by_cases c : b = 64
    · have : n = 64 := by omega
      subst c this; exact ⟨f, hget e⟩
    · exact ⟨s, (hne c).trans e⟩
  · obtain ⟨s, e⟩ := S.2.2.2.2.2.1
    by_cases c : b = 65
    · have : n = 31 := by omega
      subst c this; exact ⟨f, hget e⟩
    · exact ⟨s, (hne c).trans e⟩
  · obtain ⟨s, e⟩ := S.2.2.2.2.2.2
    exact ⟨s, (hne (by omega)).trans e⟩
def hM (h : mH) (f : Nat → Int64) : mH := (h.1.set 65 (aL 31 f), h.2)
theorem lDiv (x c : Nat) (hx : x ≤ 1000000000) (hc : c ≤ 100) : lN x * lN c / 100 = lN (x * c / 100) := by
  have : x * c ≤ 1000000000 * 100 := Nat.mul_le_mul hx hc
  rw [lN_mul]
  exact pk_lDiv (b := 100) (by omega) (by omega) (by omega)
section Spread
variable {h : mH} {a : Nat} {W : WD}
theorem addPane_ev (O : mO) (d : Nat) {f0 : Nat → Int64} (e65 : h.1[65]? = some (aL 31 f0)) {r : Nat → Nat} (hr : ∀ k, r k ≤ 1000000000) {c : Nat} (hc : c ≤ 100) (f : Nat → Int64) (hf : ∀ k, k < 31 → f k = lN (r k)) : ∃ f', (∀ k, k < 31 → f' k = lN (sdN c r k)) ∧ ev O (d) 36 0 [.ref 65, .int (nI c), mJ] [] (hM h f) = some (.inl none, hM h f') := by
  have g : ∀ f, (hM h f).1[65]? = some (aL 31 f) := fun f => hget e65
  have s : ∀ f k x, k < 31 → m_sl (hM h f) 65 (nI k) x = some (hM h (vp_updL f k x)) := fun f k x hk => by
    rw [sl_n (g f) hk (by decide)]; unfold hM; rw [List.set_set]
  have hs : (100 : Int32) - nI c = nI (100 - c) := pk_sub (a := 100) hc
  have key : ∀ j, j ≤ 30 → ∀ f, (∀ k, k < 31 → f k = if j < k then lN (sdN c r k) else lN (r k)) → ∃ f', (∀ k, k < 31 → f' k = lN (sdN c r k)) ∧ ev O (d) 36 5 [.ref 65, .int (nI c), .int (nI j)] [] (hM h f) = some (.inl none, hM h f') := by
    intro j
    induction j with
    | zero =>
      intro _ f hf
      have g0 : m_al (hM h f) 65 0 = some (lN (r 0)) := (al_n (g _) (k := 0) (by omega) (by decide)).trans (by rw [hf 0 (by omega), if_neg (by omega)])
      have s0 : ∀ x, m_sl (hM h f) 65 0 x = some (hM h (vp_updL f 0 x)) := fun x => s _ 0 x (by omega)
      refine ⟨vp_updL f 0 (lN (r 0 * (100 - c) / 100)), fun k hk => ?_, ?_⟩
      · by_cases z : k = 0
        · subst z; rw [pk_uLs]; rfl
        · rw [pk_uLn z, hf k hk, if_pos (by omega)]
      · rw [e_36_5]
        simp only [e_36_0, e_36_1, e_36_2, e_36_3, e_36_4, e_36_6, e_36_9, e_36_10, e_36_11, e_36_12, e_36_13, e_36_14, e_36_16, e_36_17, e_36_18, e_36_19, e_36_20, e_36_23, e_36_24, e_36_25, e_36_26, e_36_27, e_36_28, e_36_29, e_36_30, e_36_31, e_36_32, e_36_35, e_36_36, e_36_37, e_36_38, e_36_41, e_36_44, e_36_45, e_36_46, e_36_47, e_36_48, e_36_49, e_36_51, e_36_52, e_36_53, e_36_54, e_36_55, e_36_58, e_36_59, e_36_60, Option.bind_some, Option.bind_none, m_kt, m_kn, Option.toList_some, Option.toList_none, List.nil_append, List.cons_append, List.append_nil, ltn, ite_not, ↓reduceIte, true_or, or_true, nP1, oI_s, oI_n, bI_f, bI_t, i1_0, i0_0, Bool.false_eq_true, not_true_eq_false, not_false_eq_true, nI_0, m1m1, Nat.one_ne_zero, two_ne0, Int32.le_refl, g0, hs, nI_l (show 100 - c < 2 ^ 31 by omega), lDiv _ _ (hr 0) (show 100 - c ≤ 100 by omega), zL100, s0]
    | succ j ih =>
      intro hj f hf
      have z0 : (nI (j + 1) ≤ 0) = False := by rw [nle0 (by omega)]; simp
      have g1 : m_al (hM h f) 65 (nI (j + 1)) = some (lN (r (j + 1))) := (al_n (g f) (k := j + 1) (by omega) (by decide)).trans (by rw [hf _ (by omega), if_neg (by omega)])
      have g2 : m_al (hM h f) 65 (nI j) = some (lN (r j)) := (al_n (g f) (k := j) (by omega) (by decide)).trans (by rw [hf _ (by omega), if_neg (by omega)])
      obtain ⟨f', h1, h2⟩ := ih (by omega) (vp_updL f (j + 1) (lN (r (j + 1) * (100 - c) / 100 + r j * c / 100))) (fun k hk => by
        by_cases z : k = j + 1
        · subst z
          rw [pk_uLs, if_pos (by omega)]
          unfold sdN
          rw [if_neg (by omega), Nat.add_sub_cancel]
        · rw [pk_uLn z, hf k hk]
          by_cases z2 : j < k
          · rw [if_pos (by omega), if_pos z2]
          · rw [if_neg (by omega), if_neg z2])
      refine ⟨f', h1, Eq.trans ?_ h2⟩
      rw [e_36_5]
      simp only [e_36_0, e_36_1, e_36_2, e_36_3, e_36_4, e_36_6, e_36_9, e_36_10, e_36_11, e_36_12, e_36_13, e_36_14, e_36_16, e_36_17, e_36_18, e_36_19, e_36_20, e_36_23, e_36_24, e_36_25, e_36_26, e_36_27, e_36_28, e_36_29, e_36_30, e_36_31, e_36_32, e_36_35, e_36_36, e_36_37, e_36_38, e_36_41, e_36_44, e_36_45, e_36_46, e_36_47, e_36_48, e_36_49, e_36_51, e_36_52, e_36_53, e_36_54, e_36_55, e_36_58, e_36_59, e_36_60, Option.bind_some, Option.bind_none, m_kt, m_kn, Option.toList_some, Option.toList_none, List.nil_append, List.cons_append, List.append_nil, ltn, ite_not, ↓reduceIte, true_or, or_true, nP1, oI_s, oI_n, bI_f, bI_t, i1_0, i0_0, Bool.false_eq_true, not_true_eq_false, not_false_eq_true, nI_0, m1m1, Nat.one_ne_zero, two_ne0, z0, g1, g2, nI_pred, hs, nI_l (show 100 - c < 2 ^ 31 by omega), nI_l (show c < 2 ^ 31 by omega), lDiv _ _ (hr (j + 1)) (show 100 - c ≤ 100 by omega), lDiv _ _ (hr j) hc, lN_add, zL100, s _ (j + 1) _ (show j + 1 < 31 by omega), addm1]
  obtain ⟨f', h1, h2⟩ := key 30 (by omega) f (fun k hk => by rw [if_neg (by omega), hf k hk])
  refine ⟨f', h1, Eq.trans ?_ h2⟩
  simp only [e_36_0, e_36_1, e_36_2, e_36_3, e_36_4, e_36_6, e_36_9, e_36_10, e_36_11, e_36_12, e_36_13, e_36_14, e_36_16, e_36_17, e_36_18, e_36_19, e_36_20, e_36_23, e_36_24, e_36_25, e_36_26, e_36_27, e_36_28, e_36_29, e_36_30, e_36_31, e_36_32, e_36_35, e_36_36, e_36_37, e_36_38, e_36_41, e_36_44, e_36_45, e_36_46, e_36_47, e_36_48, e_36_49, e_36_51, e_36_52, e_36_53, e_36_54, e_36_55, e_36_58, e_36_59, e_36_60, Option.bind_some, Option.bind_none, m_kt, m_kn, Option.toList_some, Option.toList_none, List.nil_append, List.cons_append, List.append_nil, ltn, ite_not, ↓reduceIte, true_or, or_true, nP1, oI_s, oI_n, bI_f, bI_t, i1_0, i0_0, Bool.false_eq_true, not_true_eq_false, not_false_eq_true, nI_0, m1m1, Nat.one_ne_zero, two_ne0, ln_l (g f), nI_pred]
theorem spreadOver_ev (O : mO) (d : Nat) (H : CA h a W) (ha : a < 28) (R : rng W) {f0 : Nat → Int64} (e65 : h.1[65]? = some (aL 31 f0)) : ∃ f, (∀ k, k < 31 → f k = lN (sdS W (pN W) k)) ∧ ev O (d + 1) 35 0 [.ref a, .ref 65, mJ] [] h = some (.inl none, hM h f) := by
  have hN := pN_le R
  have g : ∀ f, (hM h f).1[65]? = some (aL 31 f) := fun f => hget e65
  have H1 : ∀ f, CA (hM h f) a W := fun f => H.out (A := fun b => b = 65) (out.st h _ rfl) (fun b hb => by omega)
  have fe := fill_l O d 65 31 0 f0 h (by decide) e65
  have e := lp_runJ (F := fun i (_ : Nat → Nat) f => ev O (d + 1) 35 13 [.ref a, .ref 65, .int (nI i)] [] (hM h f)) (f := sdF W) (n := pN W) (fun i r f => (∀ k, r k ≤ 1000000000) ∧ ∀ k, k < 31 → f k = lN (r k)) (fun i r f hi J => by
    have h1 : ¬ nI (pN W) ≤ nI i := nI_ge hi (by omega)
    have hi3 : i < 30 := by omega
    unfold sdF
    cases hc : riB W i
    · refine ⟨f, by simpa using J, ?_⟩
      rw [e_35_13]
      simp only [e_35_0, e_35_1, e_35_2, e_35_5, e_35_6, e_35_7, e_35_10, e_35_11, e_35_12, e_35_14, e_35_15, e_35_18, e_35_21, e_35_22, e_35_23, e_35_26, e_35_29, e_35_30, e_35_31, e_35_32, e_35_35, e_35_38, e_35_41, e_35_44, Option.bind_some, Option.bind_none, m_kt, m_kn, Option.toList_some, Option.toList_none, List.nil_append, List.cons_append, List.append_nil, ltn, ite_not, ↓reduceIte, true_or, or_true, nP1, oI_s, oI_n, bI_f, bI_t, i1_0, i0_0, Bool.false_eq_true, not_true_eq_false, not_false_eq_true, gC2 (H1 f), h1, isAtRisk_ev O d (H1 f) R hi3, hc]
    · obtain ⟨f', j1, j2⟩ := addPane_ev O d e65 J.1 (clI_le (chE W i)) f J.2
      have j2 : ev O (d) 36 0 [.ref 65, .int (nI (chN W i)), mJ] [] (hM h f) = some (.inl none, hM h f') := j2
      refine ⟨f', ⟨fun k => ?_, ?_⟩, ?_⟩
      · simp only [↓reduceIte]
        exact sdN_b (clI_le _) J.1 k
      · simp only [↓reduceIte]
        exact j1
      · rw [e_35_13]
        simp only [e_35_0, e_35_1, e_35_2, e_35_5, e_35_6, e_35_7, e_35_10, e_35_11, e_35_12, e_35_14, e_35_15, e_35_18, e_35_21, e_35_22, e_35_23, e_35_26, e_35_29, e_35_30, e_35_31, e_35_32, e_35_35, e_35_38, e_35_41, e_35_44, Option.bind_some, Option.bind_none, m_kt, m_kn, Option.toList_some, Option.toList_none, List.nil_append, List.cons_append, List.append_nil, ltn, ite_not, ↓reduceIte, true_or, or_true, nP1, oI_s, oI_n, bI_f, bI_t, i1_0, i0_0, Bool.false_eq_true, not_true_eq_false, not_false_eq_true, gC2 (H1 f), h1, isAtRisk_ev O d (H1 f) R hi3, chance_ev O d (H1 f) R hi3, hc, j2]) sd0 (vp_updL (fun j => if j < 31 then 0 else f0 j) 0 1000000000) ⟨fun k => by unfold sd0; split <;> omega, fun k hk => by
      by_cases z : k = 0
      · subst z; rw [pk_uLs]; rfl
      · rw [pk_uLn z, if_pos hk]; unfold sd0; rw [if_neg z]; rfl⟩
  obtain ⟨f, J, e⟩ := e
  refine ⟨f, J.2, ?_⟩
  have fe : ev O (d) 261 0 [.ref 65, .long 0, mJ, mJ, mJ] [] h = some (.inl none, hM h (fun j => if j < 31 then 0 else f0 j)) := fe
  have s0 : m_sl (hM h (fun j => if j < 31 then 0 else f0 j)) 65 0 1000000000 = some (hM h (vp_updL (fun j => if j < 31 then 0 else f0 j) 0 1000000000)) := by
    rw [show (0 : Int32) = nI 0 from rfl, sl_n (g _) (by omega) (by decide)]; unfold hM; rw [List.set_set]
  simp only [nI_0] at e
  simp only [e_35_0, e_35_1, e_35_2, e_35_5, e_35_6, e_35_7, e_35_10, e_35_11, e_35_12, e_35_14, e_35_15, e_35_18, e_35_21, e_35_22, e_35_23, e_35_26, e_35_29, e_35_30, e_35_31, e_35_32, e_35_35, e_35_38, e_35_41, e_35_44, Option.bind_some, Option.bind_none, m_kt, m_kn, Option.toList_some, Option.toList_none, List.nil_append, List.cons_append, List.append_nil, ltn, ite_not, ↓reduceIte, true_or, or_true, nP1, oI_s, oI_n, bI_f, bI_t, i1_0, i0_0, Bool.false_eq_true, not_true_eq_false, not_false_eq_true, fe, s0]
  refine e.trans ?_
  rw [e_35_13]
  simp only [e_35_0, e_35_1, e_35_2, e_35_5, e_35_6, e_35_7, e_35_10, e_35_11, e_35_12, e_35_14, e_35_15, e_35_18, e_35_21, e_35_22, e_35_23, e_35_26, e_35_29, e_35_30, e_35_31, e_35_32, e_35_35, e_35_38, e_35_41, e_35_44, Option.bind_some, Option.bind_none, m_kt, m_kn, Option.toList_some, Option.toList_none, List.nil_append, List.cons_append, List.append_nil, ltn, ite_not, ↓reduceIte, true_or, or_true, nP1, oI_s, oI_n, bI_f, bI_t, i1_0, i0_0, Bool.false_eq_true, not_true_eq_false, not_false_eq_true, gC2 (H1 f), Int32.le_refl]
end Spread
theorem Gspread_ev {h : mH} {g : gT} {W : WD} (O : mO) (d : Nat) (C : CG h g W) (x : Int32) : GA (ev O (d + 2) 125 0 [.ref 0, .int x] [] h) h none (.int (sprV W x)) := by
  obtain ⟨G, H, ga, R, S⟩ := C
  have hN := pN_le R
  unfold sprV
  by_cases c0 : 0 ≤ x
  · by_cases c1 : x ≤ nI (pN W)
    · have hx : inB x 0 (nI (pN W)) = true := inB_t.mpr ⟨c0, c1⟩
      obtain ⟨k, hk, rfl⟩ := inB_n (by omega) hx
      have hx2 : inB (nI k) 0 30 = true := inB_t.mpr ⟨c0, nI_le (b := 30) (by omega) (by omega)⟩
      obtain ⟨f0, e65⟩ := S.2.2.2.2.2.1
      obtain ⟨f, hf, ef⟩ := spreadOver_ev O d H (by omega) R e65
      have G1 : (hM h f).1[0]? = some (oG g) := (hne (by decide)).trans G
      have g1 : m_al (hM h f) 65 (nI k) = some (f k) := al_n (n := 31) (hget e65) (by omega) (by decide)
      rw [hf k (by omega)] at g1
      refine ⟨hM h f, ?_, sc_L f (by omega)⟩
      rw [hx2, nI_clamp (by omega)]
      simp only [e_125_0, e_125_1, e_125_4, e_125_5, e_125_6, e_125_9, e_125_12, e_125_15, e_125_16, e_125_17, e_125_18, e_125_21, e_125_22, e_125_25, e_125_28, e_125_29, e_125_32, e_125_33, e_125_34, e_125_35, Option.bind_some, Option.bind_none, m_kt, m_kn, Option.toList_some, Option.toList_none, List.nil_append, List.cons_append, List.append_nil, ltn, ite_not, ↓reduceIte, true_or, or_true, nP1, oI_s, oI_n, bI_f, bI_t, i1_0, i0_0, Bool.false_eq_true, not_true_eq_false, not_false_eq_true, c0, c1, gG0 G, gC2 H, gG11 G, ef, gG11 G1, g1, lN_i]
    · refine ⟨h, ?_, sc.rf h⟩
      have hz : (if inB x 0 30 = true then nI (sdS W (pN W) x.toNatClampNeg) else 0) = 0 := by
        split
        · rename_i q
          obtain ⟨k, hk, rfl⟩ := inB_n (n := 30) (by omega) q
          rw [nI_clamp (by omega), sdS_0 W (pN W) k (by
            rw [nLe (by omega) (by omega)] at c1; omega)]
          rfl
        · rfl
      rw [hz]
      simp only [e_125_0, e_125_1, e_125_4, e_125_5, e_125_6, e_125_9, e_125_12, e_125_15, e_125_16, e_125_17, e_125_18, e_125_21, e_125_22, e_125_25, e_125_28, e_125_29, e_125_32, e_125_33, e_125_34, e_125_35, Option.bind_some, Option.bind_none, m_kt, m_kn, Option.toList_some, Option.toList_none, List.nil_append, List.cons_append, List.append_nil, ltn, ite_not, ↓reduceIte, true_or, or_true, nP1, oI_s, oI_n, bI_f, bI_t, i1_0, i0_0, Bool.false_eq_true, not_true_eq_false, not_false_eq_true, c0, c1, gG0 G, gC2 H]
  · refine ⟨h, ?_, sc.rf h⟩
    have : inB x 0 30 = false := inB_f.mpr (.inl c0)
    simp only [e_125_0, e_125_1, e_125_4, e_125_5, e_125_6, e_125_9, e_125_12, e_125_15, e_125_16, e_125_17, e_125_18, e_125_21, e_125_22, e_125_25, e_125_28, e_125_29, e_125_32, e_125_33, e_125_34, e_125_35, Option.bind_some, Option.bind_none, m_kt, m_kn, Option.toList_some, Option.toList_none, List.nil_append, List.cons_append, List.append_nil, ltn, ite_not, ↓reduceIte, true_or, or_true, nP1, oI_s, oI_n, bI_f, bI_t, i1_0, i0_0, Bool.false_eq_true, not_true_eq_false, not_false_eq_true, c0, this]
def hV (h : mH) (f : Nat → Int32) : mH := (h.1.set 79 (aI 31 f), h.2)
section MSpread
variable {h : mH} {m : Nat → Int32} {W : WD}
theorem msd_in (O : mO) (d : Nat) (H : MS h m W) {f0 : Nat → Int32} (e79 : h.1[79]? = some (aI 31 f0)) {r : Nat → Nat} (hr : ∀ k, r k ≤ 1000000000) {c : Nat} (hc : c ≤ 100) (x : Int32) (p : Nat) : ∀ j, j ≤ 31 → ∀ f, (∀ k, k < 31 → f k = if j ≤ k then nI (sdN c r k) else nI (r k)) → ∃ f', (∀ k, k < 31 → f' k = nI (sdN c r k)) ∧ ev O (d) 241 76 [.ref 66, .int x, .int (nI p), .long (lN c), mJ, .int (nI j - 1)] [] (hV h f) = ev O (d) 241 139 [.ref 66, .int x, .int (nI p), .long (lN c), mJ, .int (-1)] [] (hV h f') := by
  have g : ∀ f, (hV h f).1[79]? = some (aI 31 f) := fun f => hget e79
  have H1 : ∀ f, MS (hV h f) m W := fun f => H.out (A := fun b => b = 79) (out.st h _ rfl) (by decide) (by decide)
  have s : ∀ f k x, k < 31 → m_si (hV h f) 79 (nI k) x = some (hV h (upd f k x)) := fun f k x hk => by
    rw [si_n (g f) hk (by decide)]; unfold hV; rw [List.set_set]
  have hs : (100 : Int64) - lN c = lN (100 - c) := lN_sub (a := 100) hc
  intro j
  induction j with
  | zero =>
    intro _ f hf
    refine ⟨f, fun k hk => by rw [hf k hk, if_pos (by omega)], ?_⟩
    rw [show nI 0 - 1 = -1 from by decide, e_241_76]
    simp only [e_241_0, e_241_1, e_241_2, e_241_5, e_241_6, e_241_7, e_241_8, e_241_10, e_241_13, e_241_14, e_241_17, e_241_18, e_241_19, e_241_20, e_241_23, e_241_26, e_241_27, e_241_30, e_241_31, e_241_34, e_241_35, e_241_36, e_241_37, e_241_38, e_241_39, e_241_42, e_241_45, e_241_46, e_241_47, e_241_50, e_241_53, e_241_54, e_241_55, e_241_56, e_241_59, e_241_62, e_241_65, e_241_66, e_241_67, e_241_70, e_241_71, e_241_72, e_241_74, e_241_74I, e_241_74A, e_241_74O, e_241_78, e_241_81, e_241_82, e_241_85, e_241_87, e_241_88, e_241_91, e_241_93, e_241_94, e_241_95, e_241_98, e_241_99, e_241_100, e_241_101, e_241_104, e_241_105, e_241_107, e_241_110, e_241_111, e_241_114, e_241_116, e_241_117, e_241_118, e_241_119, e_241_120, e_241_121, e_241_122, e_241_125, e_241_126, e_241_129, e_241_130, e_241_131, e_241_132, e_241_133, e_241_133I, e_241_133A, e_241_133O, e_241_136, e_241_142, e_241_145, e_241_146, e_241_147, e_241_149, e_241_152, e_241_155, e_241_156, e_241_159, e_241_160, e_241_161, e_241_164, e_241_165, Option.bind_some, Option.bind_none, m_kt, m_kn, Option.toList_some, Option.toList_none, List.nil_append, List.cons_append, List.append_nil, ltn, ite_not, ↓reduceIte, true_or, or_true, nP1, oI_s, oI_n, bI_f, bI_t, i1_0, i0_0, Bool.false_eq_true, not_true_eq_false, not_false_eq_true, m1_0]
  | succ j ih =>
    intro hj f hf
    have g1 : m_ai (hV h f) 79 (nI j) = some (nI (r j)) := (ai_n (g f) (k := j) (by omega) (by decide)).trans (by rw [hf _ (by omega), if_neg (by omega)])
    have i1 : (nI (r j)).toInt64 = lN (r j) := nI_l (by have := hr j; omega)
    obtain ⟨f', h1, h2⟩ := ih (by omega) (upd f j (nI (sdN c r j))) (fun k hk => by
      by_cases z : k = j
      · subst z; rw [pk_us, if_pos (by omega)]
      · rw [pk_un z, hf k hk]
        by_cases z2 : j ≤ k
        · rw [if_pos (by omega), if_pos z2]
        · rw [if_neg (by omega), if_neg z2])
    refine ⟨f', h1, Eq.trans ?_ h2⟩
    rw [nI_pred, e_241_76]
    rcases Nat.eq_zero_or_pos j with z | z
    · subst z
      have z0 : (0 : Int32) ≤ nI 0 := by decide
      have e0 : sdN c r 0 = r 0 * (100 - c) / 100 + 0 := rfl
      simp only [e_241_0, e_241_1, e_241_2, e_241_5, e_241_6, e_241_7, e_241_8, e_241_10, e_241_13, e_241_14, e_241_17, e_241_18, e_241_19, e_241_20, e_241_23, e_241_26, e_241_27, e_241_30, e_241_31, e_241_34, e_241_35, e_241_36, e_241_37, e_241_38, e_241_39, e_241_42, e_241_45, e_241_46, e_241_47, e_241_50, e_241_53, e_241_54, e_241_55, e_241_56, e_241_59, e_241_62, e_241_65, e_241_66, e_241_67, e_241_70, e_241_71, e_241_72, e_241_74, e_241_74I, e_241_74A, e_241_74O, e_241_78, e_241_81, e_241_82, e_241_85, e_241_87, e_241_88, e_241_91, e_241_93, e_241_94, e_241_95, e_241_98, e_241_99, e_241_100, e_241_101, e_241_104, e_241_105, e_241_107, e_241_110, e_241_111, e_241_114, e_241_116, e_241_117, e_241_118, e_241_119, e_241_120, e_241_121, e_241_122, e_241_125, e_241_126, e_241_129, e_241_130, e_241_131, e_241_132, e_241_133, e_241_133I, e_241_133A, e_241_133O, e_241_136, e_241_142, e_241_145, e_241_146, e_241_147, e_241_149, e_241_152, e_241_155, e_241_156, e_241_159, e_241_160, e_241_161, e_241_164, e_241_165, Option.bind_some, Option.bind_none, m_kt, m_kn, Option.toList_some, Option.toList_none, List.nil_append, List.cons_append, List.append_nil, ltn, ite_not, ↓reduceIte, true_or, or_true, nP1, oI_s, oI_n, bI_f, bI_t, i1_0, i0_0, Bool.false_eq_true, not_true_eq_false, not_false_eq_true, z0, gM23 (H1 f).1, g1, i1, hs, lDiv _ _ (hr 0) (show 100 - c ≤ 100 by omega), zL100, (show (nI 0 ≤ 0) = True by decide), (show (0 : Int64) = lN 0 from rfl), (show ((100 : Int64) = lN 0) = False by decide), lN_add, lN_i, s f 0 _ (show 0 < 31 by omega), addm1, e0]
    · obtain ⟨i, rfl⟩ : ∃ i, j = i + 1 := ⟨j - 1, by omega⟩
      have z0 : (nI (i + 1) ≤ 0) = False := by rw [nle0 (by omega)]; simp
      have z1 : (0 : Int32) ≤ nI (i + 1) := nI_pos' (by omega)
      have g2 : m_ai (hV h f) 79 (nI i) = some (nI (r i)) := (ai_n (g f) (k := i) (by omega) (by decide)).trans (by rw [hf _ (by omega), if_neg (by omega)])
      have i2 : (nI (r i)).toInt64 = lN (r i) := nI_l (by have := hr i; omega)
      have e0 : sdN c r (i + 1) = r (i + 1) * (100 - c) / 100 + r i * c / 100 := by unfold sdN; rw [if_neg (by omega), Nat.add_sub_cancel]
      simp only [e_241_0, e_241_1, e_241_2, e_241_5, e_241_6, e_241_7, e_241_8, e_241_10, e_241_13, e_241_14, e_241_17, e_241_18, e_241_19, e_241_20, e_241_23, e_241_26, e_241_27, e_241_30, e_241_31, e_241_34, e_241_35, e_241_36, e_241_37, e_241_38, e_241_39, e_241_42, e_241_45, e_241_46, e_241_47, e_241_50, e_241_53, e_241_54, e_241_55, e_241_56, e_241_59, e_241_62, e_241_65, e_241_66, e_241_67, e_241_70, e_241_71, e_241_72, e_241_74, e_241_74I, e_241_74A, e_241_74O, e_241_78, e_241_81, e_241_82, e_241_85, e_241_87, e_241_88, e_241_91, e_241_93, e_241_94, e_241_95, e_241_98, e_241_99, e_241_100, e_241_101, e_241_104, e_241_105, e_241_107, e_241_110, e_241_111, e_241_114, e_241_116, e_241_117, e_241_118, e_241_119, e_241_120, e_241_121, e_241_122, e_241_125, e_241_126, e_241_129, e_241_130, e_241_131, e_241_132, e_241_133, e_241_133I, e_241_133A, e_241_133O, e_241_136, e_241_142, e_241_145, e_241_146, e_241_147, e_241_149, e_241_152, e_241_155, e_241_156, e_241_159, e_241_160, e_241_161, e_241_164, e_241_165, Option.bind_some, Option.bind_none, m_kt, m_kn, Option.toList_some, Option.toList_none, List.nil_append, List.cons_append, List.append_nil, ltn, ite_not, ↓reduceIte, true_or, or_true, nP1, oI_s, oI_n, bI_f, bI_t, i1_0, i0_0, Bool.false_eq_true, not_true_eq_false, not_false_eq_true, z0, z1, gM23 (H1 f).1, g1, g2, i1, i2, nI_pred, hs, lDiv _ _ (hr (i + 1)) (show 100 - c ≤ 100 by omega), lDiv _ _ (hr i) hc, zL100, lN_add, lN_i, s f (i + 1) _ (show i + 1 < 31 by omega), addm1, e0]
theorem Mspread_ev (O : mO) (d : Nat) (H : MS h m W) (R : rng W) (S : SH h) (x : Int32) : MA (ev O (d + 2) 241 0 [.ref 66, .int x, mJ, mJ, mJ, mJ] [] h) h m 0 (.int (sprV W x)) := by
  have hN := pN_le R
  have H0 := H.t 0
  obtain ⟨f0, e79⟩ := (SH_tH S m 0).at (b := 79) (n := 31) (by decide)
  have g : ∀ f, (hV (tH h m 0) f).1[79]? = some (aI 31 f) := fun f => hget e79
  have H1 : ∀ f, MS (hV (tH h m 0) f) (upd m 0 0) W := fun f => H0.out (A := fun b => b = 79) (out.st _ _ rfl) (by decide) (by decide)
  have s : ∀ f k x, k < 31 → m_si (hV (tH h m 0) f) 79 (nI k) x = some (hV (tH h m 0) (upd f k x)) := fun f k x hk => by
    rw [si_n (g f) hk (by decide)]; unfold hV; rw [List.set_set]
  have h00 : hV (tH h m 0) f0 = tH h m 0 := by unfold hV; rw [hset e79]
  have e1 := lp_run (F := fun i f => ev O (d + 2) 241 7 [.ref 66, .int x, .int (nI (i + 1)), mJ, mJ, mJ] [] (hV (tH h m 0) f)) (f := fun i f => upd f (i + 1) 0) (n := 30) (fun i f hi => by
    have h1 : nI (i + 1) ≤ 30 := nI_le (b := 30) (by omega) (by omega)
    rw [e_241_7]
    simp only [e_241_0, e_241_1, e_241_2, e_241_5, e_241_6, e_241_8, e_241_10, e_241_13, e_241_14, e_241_17, e_241_18, e_241_19, e_241_20, e_241_23, e_241_26, e_241_27, e_241_30, e_241_31, e_241_34, e_241_35, e_241_36, e_241_37, e_241_38, e_241_39, e_241_42, e_241_45, e_241_46, e_241_47, e_241_50, e_241_53, e_241_54, e_241_55, e_241_56, e_241_59, e_241_62, e_241_65, e_241_66, e_241_67, e_241_70, e_241_71, e_241_72, e_241_74, e_241_74I, e_241_74A, e_241_74O, e_241_76, e_241_78, e_241_81, e_241_82, e_241_85, e_241_87, e_241_88, e_241_91, e_241_93, e_241_94, e_241_95, e_241_98, e_241_99, e_241_100, e_241_101, e_241_104, e_241_105, e_241_107, e_241_110, e_241_111, e_241_114, e_241_116, e_241_117, e_241_118, e_241_119, e_241_120, e_241_121, e_241_122, e_241_125, e_241_126, e_241_129, e_241_130, e_241_131, e_241_132, e_241_133, e_241_133I, e_241_133A, e_241_133O, e_241_136, e_241_139, e_241_142, e_241_145, e_241_146, e_241_147, e_241_149, e_241_152, e_241_155, e_241_156, e_241_159, e_241_160, e_241_161, e_241_164, e_241_165, Option.bind_some, Option.bind_none, m_kt, m_kn, Option.toList_some, Option.toList_none, List.nil_append, List.cons_append, List.append_nil, ltn, ite_not, ↓reduceIte, true_or, or_true, nP1, oI_s, oI_n, bI_f, bI_t, i1_0, i0_0, Bool.false_eq_true, not_true_eq_false, not_false_eq_true, h1, gM23 (H1 f).1, s f (i + 1) 0 (show i + 1 < 31 by omega)]) f0
  have c1 : ∀ n k, n ≤ 30 → 1 ≤ k → k ≤ n → lp (fun i f => upd f (i + 1) 0) n f0 k = 0 := by
    intro n
    induction n with
    | zero => intro k _ h1 h2; omega
    | succ n ih =>
      intro k h0 h1 h2
      rw [lp_s]
      by_cases z : k = n + 1
      · subst z; exact pk_us
      · rw [pk_un z]; exact ih k (by omega) h1 (by omega)
  have e2 := lp_runJ (ν := (Nat → Int32) × Value × Value × Value) (F := fun i (_ : Nat → Nat) v => ev O (d + 2) 241 37 [.ref 66, .int x, .int (nI i), v.2.1, v.2.2.1, v.2.2.2] [] (hV (tH h m 0) v.1)) (f := sdF W) (n := pN W) (fun i r v => (∀ k, r k ≤ 1000000000) ∧ ∀ k, k < 31 → v.1 k = nI (r k)) (fun i r v hi J => by
    obtain ⟨f, v1, v2, v3⟩ := v
    have h1 : ¬ nI (pN W) ≤ nI i := nI_ge hi (by omega)
    have hi3 : i < 30 := by omega
    unfold sdF riB
    simp only at J ⊢
    rw [e_241_37]
    cases c2 : brk W i
    · by_cases c : 0 ≤ W (7 + 6 * i + 1)
      · refine ⟨(f, v1, v2, v3), by simpa [c] using J, ?_⟩
        simp only [e_241_0, e_241_1, e_241_2, e_241_5, e_241_6, e_241_7, e_241_8, e_241_10, e_241_13, e_241_14, e_241_17, e_241_18, e_241_19, e_241_20, e_241_23, e_241_26, e_241_27, e_241_30, e_241_31, e_241_34, e_241_35, e_241_36, e_241_38, e_241_39, e_241_42, e_241_45, e_241_46, e_241_47, e_241_50, e_241_53, e_241_54, e_241_55, e_241_56, e_241_59, e_241_62, e_241_65, e_241_66, e_241_67, e_241_70, e_241_71, e_241_72, e_241_74, e_241_74I, e_241_74A, e_241_74O, e_241_78, e_241_81, e_241_82, e_241_85, e_241_87, e_241_88, e_241_91, e_241_93, e_241_94, e_241_95, e_241_98, e_241_99, e_241_100, e_241_101, e_241_104, e_241_105, e_241_107, e_241_110, e_241_111, e_241_114, e_241_116, e_241_117, e_241_118, e_241_119, e_241_120, e_241_121, e_241_122, e_241_125, e_241_126, e_241_129, e_241_130, e_241_131, e_241_132, e_241_133, e_241_133I, e_241_133A, e_241_133O, e_241_136, e_241_139, e_241_142, e_241_145, e_241_146, e_241_147, e_241_149, e_241_152, e_241_155, e_241_156, e_241_159, e_241_160, e_241_161, e_241_164, e_241_165, Option.bind_some, Option.bind_none, m_kt, m_kn, Option.toList_some, Option.toList_none, List.nil_append, List.cons_append, List.append_nil, ltn, ite_not, ↓reduceIte, true_or, or_true, nP1, oI_s, oI_n, bI_f, bI_t, i1_0, i0_0, Bool.false_eq_true, not_true_eq_false, not_false_eq_true, (H1 f).isc, panes_ev O (d + 1) (H1 f).w R, h1, isBr_ev O d (H1 f).w hi3, of1_ev O (d + 1) (H1 f).w hi3, c2, c]
      · obtain ⟨f', j1, j2⟩ := msd_in O (d + 2) H0 e79 J.1 (clI_le (chE W i)) x i 31 (by omega) f (fun k hk => by rw [if_neg (by omega), J.2 k hk])
        have j2 : ev O (d + 2) 241 76 [.ref 66, .int x, .int (nI i), .long (lN (chN W i)), mJ, .int 30] [] (hV (tH h m 0) f) = ev O (d + 2) 241 139 [.ref 66, .int x, .int (nI i), .long (lN (chN W i)), mJ, .int (-1)] [] (hV (tH h m 0) f') := j2
        have hl : (nI (chN W i)).toInt64 = lN (chN W i) := nI_l (by have := clI_le (chE W i); unfold chN; omega)
        refine ⟨(f', .long (lN (chN W i)), mJ, .int (-1)), ?_, ?_⟩
        · simp only [c, decide_false, Bool.not_false, Bool.and_true, ↓reduceIte]
          exact ⟨fun k => sdN_b (clI_le _) J.1 k, j1⟩
        · simp only [e_241_0, e_241_1, e_241_2, e_241_5, e_241_6, e_241_7, e_241_8, e_241_10, e_241_13, e_241_14, e_241_17, e_241_18, e_241_19, e_241_20, e_241_23, e_241_26, e_241_27, e_241_30, e_241_31, e_241_34, e_241_35, e_241_36, e_241_38, e_241_39, e_241_42, e_241_45, e_241_46, e_241_47, e_241_50, e_241_53, e_241_54, e_241_55, e_241_56, e_241_59, e_241_62, e_241_65, e_241_66, e_241_67, e_241_70, e_241_71, e_241_72, e_241_74, e_241_74I, e_241_74A, e_241_74O, e_241_78, e_241_81, e_241_82, e_241_85, e_241_87, e_241_88, e_241_91, e_241_93, e_241_94, e_241_95, e_241_98, e_241_99, e_241_100, e_241_101, e_241_104, e_241_105, e_241_107, e_241_110, e_241_111, e_241_114, e_241_116, e_241_117, e_241_118, e_241_119, e_241_120, e_241_121, e_241_122, e_241_125, e_241_126, e_241_129, e_241_130, e_241_131, e_241_132, e_241_133, e_241_133I, e_241_133A, e_241_133O, e_241_136, e_241_142, e_241_145, e_241_146, e_241_147, e_241_149, e_241_152, e_241_155, e_241_156, e_241_159, e_241_160, e_241_161, e_241_164, e_241_165, Option.bind_some, Option.bind_none, m_kt, m_kn, Option.toList_some, Option.toList_none, List.nil_append, List.cons_append, List.append_nil, ltn, ite_not, ↓reduceIte, true_or, or_true, nP1, oI_s, oI_n, bI_f, bI_t, i1_0, i0_0, Bool.false_eq_true, not_true_eq_false, not_false_eq_true, (H1 f).isc, panes_ev O (d + 1) (H1 f).w R, h1, isBr_ev O d (H1 f).w hi3, of1_ev O (d + 1) (H1 f).w hi3, mchance_ev O d (H1 f).w R hi3, c2, c, hl, j2]
          simp only [e_241_0, e_241_1, e_241_2, e_241_5, e_241_6, e_241_7, e_241_8, e_241_10, e_241_13, e_241_14, e_241_17, e_241_18, e_241_19, e_241_20, e_241_23, e_241_26, e_241_27, e_241_30, e_241_31, e_241_34, e_241_35, e_241_36, e_241_38, e_241_39, e_241_42, e_241_45, e_241_46, e_241_47, e_241_50, e_241_53, e_241_54, e_241_55, e_241_56, e_241_59, e_241_62, e_241_65, e_241_66, e_241_67, e_241_70, e_241_71, e_241_72, e_241_74, e_241_74I, e_241_74A, e_241_74O, e_241_78, e_241_81, e_241_82, e_241_85, e_241_87, e_241_88, e_241_91, e_241_93, e_241_94, e_241_95, e_241_98, e_241_99, e_241_100, e_241_101, e_241_104, e_241_105, e_241_107, e_241_110, e_241_111, e_241_114, e_241_116, e_241_117, e_241_118, e_241_119, e_241_120, e_241_121, e_241_122, e_241_125, e_241_126, e_241_129, e_241_130, e_241_131, e_241_132, e_241_133, e_241_133I, e_241_133A, e_241_133O, e_241_136, e_241_139, e_241_142, e_241_145, e_241_146, e_241_147, e_241_149, e_241_152, e_241_155, e_241_156, e_241_159, e_241_160, e_241_161, e_241_164, e_241_165, Option.bind_some, Option.bind_none, m_kt, m_kn, Option.toList_some, Option.toList_none, List.nil_append, List.cons_append, List.append_nil, ltn, ite_not, ↓reduceIte, true_or, or_true, nP1, oI_s, oI_n, bI_f, bI_t, i1_0, i0_0, Bool.false_eq_true, not_true_eq_false, not_false_eq_true]
    · refine ⟨(f, v1, v2, v3), by simpa using J, ?_⟩
      simp only [e_241_0, e_241_1, e_241_2, e_241_5, e_241_6, e_241_7, e_241_8, e_241_10, e_241_13, e_241_14, e_241_17, e_241_18, e_241_19, e_241_20, e_241_23, e_241_26, e_241_27, e_241_30, e_241_31, e_241_34, e_241_35, e_241_36, e_241_38, e_241_39, e_241_42, e_241_45, e_241_46, e_241_47, e_241_50, e_241_53, e_241_54, e_241_55, e_241_56, e_241_59, e_241_62, e_241_65, e_241_66, e_241_67, e_241_70, e_241_71, e_241_72, e_241_74, e_241_74I, e_241_74A, e_241_74O, e_241_78, e_241_81, e_241_82, e_241_85, e_241_87, e_241_88, e_241_91, e_241_93, e_241_94, e_241_95, e_241_98, e_241_99, e_241_100, e_241_101, e_241_104, e_241_105, e_241_107, e_241_110, e_241_111, e_241_114, e_241_116, e_241_117, e_241_118, e_241_119, e_241_120, e_241_121, e_241_122, e_241_125, e_241_126, e_241_129, e_241_130, e_241_131, e_241_132, e_241_133, e_241_133I, e_241_133A, e_241_133O, e_241_136, e_241_139, e_241_142, e_241_145, e_241_146, e_241_147, e_241_149, e_241_152, e_241_155, e_241_156, e_241_159, e_241_160, e_241_161, e_241_164, e_241_165, Option.bind_some, Option.bind_none, m_kt, m_kn, Option.toList_some, Option.toList_none, List.nil_append, List.cons_append, List.append_nil, ltn, ite_not, ↓reduceIte, true_or, or_true, nP1, oI_s, oI_n, bI_f, bI_t, i1_0, i0_0, Bool.false_eq_true, not_true_eq_false, not_false_eq_true, (H1 f).isc, panes_ev O (d + 1) (H1 f).w R, h1, isBr_ev O d (H1 f).w hi3, c2]) sd0 (upd (lp (fun i f => upd f (i + 1) 0) 30 f0) 0 1000000000, mJ, mJ, mJ) ⟨fun k => by unfold sd0; split <;> omega, fun k hk => by
      by_cases z : k = 0
      · subst z; simp only; rw [pk_us]; rfl
      · show upd _ _ _ k = _
        rw [pk_un z, c1 30 k (by omega) (by omega) (by omega)]; unfold sd0; rw [if_neg z]; rfl⟩
  obtain ⟨⟨f, v1, v2, v3⟩, J, e2⟩ := e2
  refine ⟨hV (tH h m 0) f, ?_, sc_set (by decide) f⟩
  have e1 : ev O (d + 2) 241 7 [.ref 66, .int x, .int 1, mJ, mJ, mJ] [] (tH h m 0) = ev O (d + 2) 241 7 [.ref 66, .int x, .int (nI 31), mJ, mJ, mJ] [] (hV (tH h m 0) (lp (fun i f => upd f (i + 1) 0) 30 f0)) := by rw [← h00]; rw [h00]; rw [h00] at e1; exact e1
  have s0 : ∀ f x, m_si (hV (tH h m 0) f) 79 0 x = some (hV (tH h m 0) (upd f 0 x)) := fun f x => s f 0 x (by omega)
  simp only [e_241_0, e_241_1, e_241_2, e_241_5, e_241_6, e_241_8, e_241_10, e_241_13, e_241_14, e_241_17, e_241_18, e_241_19, e_241_20, e_241_23, e_241_26, e_241_27, e_241_30, e_241_31, e_241_34, e_241_35, e_241_36, e_241_38, e_241_39, e_241_42, e_241_45, e_241_46, e_241_47, e_241_50, e_241_53, e_241_54, e_241_55, e_241_56, e_241_59, e_241_62, e_241_65, e_241_66, e_241_67, e_241_70, e_241_71, e_241_72, e_241_74, e_241_74I, e_241_74A, e_241_74O, e_241_76, e_241_78, e_241_81, e_241_82, e_241_85, e_241_87, e_241_88, e_241_91, e_241_93, e_241_94, e_241_95, e_241_98, e_241_99, e_241_100, e_241_101, e_241_104, e_241_105, e_241_107, e_241_110, e_241_111, e_241_114, e_241_116, e_241_117, e_241_118, e_241_119, e_241_120, e_241_121, e_241_122, e_241_125, e_241_126, e_241_129, e_241_130, e_241_131, e_241_132, e_241_133, e_241_133I, e_241_133A, e_241_133O, e_241_136, e_241_139, e_241_142, e_241_145, e_241_146, e_241_147, e_241_149, e_241_152, e_241_155, e_241_156, e_241_159, e_241_160, e_241_161, e_241_164, e_241_165, Option.bind_some, Option.bind_none, m_kt, m_kn, Option.toList_some, Option.toList_none, List.nil_append, List.cons_append, List.append_nil, ltn, ite_not, ↓reduceIte, true_or, or_true, nP1, oI_s, oI_n, bI_f, bI_t, i1_0, i0_0, Bool.false_eq_true, not_true_eq_false, not_false_eq_true, pMt H]
  rw [e1, e_241_7]
  simp only [nI_0] at e2
  simp only [e_241_0, e_241_1, e_241_2, e_241_5, e_241_6, e_241_8, e_241_10, e_241_13, e_241_14, e_241_17, e_241_18, e_241_19, e_241_20, e_241_23, e_241_26, e_241_27, e_241_30, e_241_31, e_241_34, e_241_35, e_241_36, e_241_38, e_241_39, e_241_42, e_241_45, e_241_46, e_241_47, e_241_50, e_241_53, e_241_54, e_241_55, e_241_56, e_241_59, e_241_62, e_241_65, e_241_66, e_241_67, e_241_70, e_241_71, e_241_72, e_241_74, e_241_74I, e_241_74A, e_241_74O, e_241_76, e_241_78, e_241_81, e_241_82, e_241_85, e_241_87, e_241_88, e_241_91, e_241_93, e_241_94, e_241_95, e_241_98, e_241_99, e_241_100, e_241_101, e_241_104, e_241_105, e_241_107, e_241_110, e_241_111, e_241_114, e_241_116, e_241_117, e_241_118, e_241_119, e_241_120, e_241_121, e_241_122, e_241_125, e_241_126, e_241_129, e_241_130, e_241_131, e_241_132, e_241_133, e_241_133I, e_241_133A, e_241_133O, e_241_136, e_241_139, e_241_142, e_241_145, e_241_146, e_241_147, e_241_149, e_241_152, e_241_155, e_241_156, e_241_159, e_241_160, e_241_161, e_241_164, e_241_165, Option.bind_some, Option.bind_none, m_kt, m_kn, Option.toList_some, Option.toList_none, List.nil_append, List.cons_append, List.append_nil, ltn, ite_not, ↓reduceIte, true_or, or_true, nP1, oI_s, oI_n, bI_f, bI_t, i1_0, i0_0, Bool.false_eq_true, not_true_eq_false, not_false_eq_true, (show (nI 31 ≤ 30) = False by decide), gM23 (H1 _).1, s0]
  refine Eq.trans e2 ?_
  unfold sprV
  rw [e_241_37]
  cases c : inB x 0 30
  · simp only [e_241_0, e_241_1, e_241_2, e_241_5, e_241_6, e_241_8, e_241_10, e_241_13, e_241_14, e_241_17, e_241_18, e_241_19, e_241_20, e_241_23, e_241_26, e_241_27, e_241_30, e_241_31, e_241_34, e_241_35, e_241_36, e_241_38, e_241_39, e_241_42, e_241_45, e_241_46, e_241_47, e_241_50, e_241_53, e_241_54, e_241_55, e_241_56, e_241_59, e_241_62, e_241_65, e_241_66, e_241_67, e_241_70, e_241_71, e_241_72, e_241_74, e_241_74I, e_241_74A, e_241_74O, e_241_76, e_241_78, e_241_81, e_241_82, e_241_85, e_241_87, e_241_88, e_241_91, e_241_93, e_241_94, e_241_95, e_241_98, e_241_99, e_241_100, e_241_101, e_241_104, e_241_105, e_241_107, e_241_110, e_241_111, e_241_114, e_241_116, e_241_117, e_241_118, e_241_119, e_241_120, e_241_121, e_241_122, e_241_125, e_241_126, e_241_129, e_241_130, e_241_131, e_241_132, e_241_133, e_241_133I, e_241_133A, e_241_133O, e_241_136, e_241_139, e_241_142, e_241_145, e_241_146, e_241_147, e_241_149, e_241_152, e_241_155, e_241_156, e_241_159, e_241_160, e_241_161, e_241_164, e_241_165, Option.bind_some, Option.bind_none, m_kt, m_kn, Option.toList_some, Option.toList_none, List.nil_append, List.cons_append, List.append_nil, ltn, ite_not, ↓reduceIte, true_or, or_true, nP1, oI_s, oI_n, bI_f, bI_t, i1_0, i0_0, Bool.false_eq_true, not_true_eq_false, not_false_eq_true, (H1 f).isc, panes_ev O (d + 1) (H1 f).w R, Int32.le_refl, in_ev, c]
  · have c' := c
    obtain ⟨k, hk, rfl⟩ := inB_n (n := 30) (by omega) c'
    have g1 := ai_n (g f) (k := k) (by omega) (by decide)
    have J2 : f k = nI (sdS W (pN W) k) := J.2 k (by omega)
    rw [J2] at g1
    rw [nI_clamp (by omega)]
    simp only [e_241_0, e_241_1, e_241_2, e_241_5, e_241_6, e_241_8, e_241_10, e_241_13, e_241_14, e_241_17, e_241_18, e_241_19, e_241_20, e_241_23, e_241_26, e_241_27, e_241_30, e_241_31, e_241_34, e_241_35, e_241_36, e_241_38, e_241_39, e_241_42, e_241_45, e_241_46, e_241_47, e_241_50, e_241_53, e_241_54, e_241_55, e_241_56, e_241_59, e_241_62, e_241_65, e_241_66, e_241_67, e_241_70, e_241_71, e_241_72, e_241_74, e_241_74I, e_241_74A, e_241_74O, e_241_76, e_241_78, e_241_81, e_241_82, e_241_85, e_241_87, e_241_88, e_241_91, e_241_93, e_241_94, e_241_95, e_241_98, e_241_99, e_241_100, e_241_101, e_241_104, e_241_105, e_241_107, e_241_110, e_241_111, e_241_114, e_241_116, e_241_117, e_241_118, e_241_119, e_241_120, e_241_121, e_241_122, e_241_125, e_241_126, e_241_129, e_241_130, e_241_131, e_241_132, e_241_133, e_241_133I, e_241_133A, e_241_133O, e_241_136, e_241_139, e_241_142, e_241_145, e_241_146, e_241_147, e_241_149, e_241_152, e_241_155, e_241_156, e_241_159, e_241_160, e_241_161, e_241_164, e_241_165, Option.bind_some, Option.bind_none, m_kt, m_kn, Option.toList_some, Option.toList_none, List.nil_append, List.cons_append, List.append_nil, ltn, ite_not, ↓reduceIte, true_or, or_true, nP1, oI_s, oI_n, bI_f, bI_t, i1_0, i0_0, Bool.false_eq_true, not_true_eq_false, not_false_eq_true, (H1 f).isc, panes_ev O (d + 1) (H1 f).w R, Int32.le_refl, in_ev, c, gM23 (H1 f).1, g1]
end MSpread
