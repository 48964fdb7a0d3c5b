/-! Blows: all that a crack gets -/
def crk (W : WD) (q : Nat) : Bool := decide (1 ≤ W (7 + 6 * q + 3))
theorem lt01 (x : Int32) : (0 < x) = (1 ≤ x) := by
  apply propext
  rw [i_lt, i_le]
  have a : (0 : Int32).toInt = 0 := by decide
  have b : (1 : Int32).toInt = 1 := by decide
  omega
theorem nle01 (x : Int32) : (x ≤ 0) = ¬ (1 ≤ x) := by rw [← lt01]; exact propext Int32.not_lt.symm
theorem lp_congrI {σ : Type} (I : σ → Prop) {f g : Nat → σ → σ} {n : Nat} (h : ∀ i s, i < n → f i s = g i s) (s : σ) : lp f n s = lp g n s := lp_congr h s
theorem nxS_congr {W : WD} (R : rng W) {l p k : Nat} {wh wh' : Nat → Bool} (hp : p < pN W) (h : ∀ q, q < pN W → wh q = wh' q) (s : Option Nat × Nat) : nxS W l wh p k s = nxS W l wh' p k s := by
  unfold nxS
  cases e : bes (wN W) (gN W) p k with
  | none => rfl
  | some q =>
    have hq : q < pN W := bes_lt R.1.1.2.1 hp e
    simp only [Option.elim_some, nxQ, h q hq]
def nxR (W : WD) (l : Nat) (wh : Nat → Bool) (p sl : Nat) : Option Nat × Nat := lp (nxS W l wh p) 4 (none, sl)
theorem nxR_congr {W : WD} (R : rng W) {l p sl : Nat} {wh wh' : Nat → Bool} (hp : p < pN W) (h : ∀ q, q < pN W → wh q = wh' q) : nxR W l wh p sl = nxR W l wh' p sl := lp_congr (fun i s _ => nxS_congr R hp h s) _
theorem nxR_I {W : WD} (R : rng W) {l p sl : Nat} {wh : Nat → Bool} (hp : p < pN W) (hs : sl ≤ 1000) : (nxR W l wh p sl).2 ≤ 1000 ∧ (∀ b, (nxR W l wh p sl).1 = some b → b < pN W ∧ wh b = true ∧ 5 * tN W b < l) := by
  refine lp_I (fun _ (s : Option Nat × Nat) => s.2 ≤ 1000 ∧ ∀ b, s.1 = some b → b < pN W ∧ wh b = true ∧ 5 * tN W b < l) ⟨hs, fun b e => by cases e⟩ (fun i s hi I => ?_)
  unfold nxS
  cases e : bes (wN W) (gN W) p i with
  | none => exact I
  | some q =>
    have hq : q < pN W := bes_lt R.1.1.2.1 hp e
    simp only [Option.elim_some, nxQ]
    split
    · split
      · exact I
      · split
        · exact ⟨by simp only; omega, I.2⟩
        · split
          · exact ⟨I.1, fun b e => by cases e; exact ⟨hq, by assumption, by omega⟩⟩
          · exact I
    · exact I
/-- which pane it runs to does not hang on the slack -/
theorem nxS_1 (W : WD) (l : Nat) (wh : Nat → Bool) (p k : Nat) (bo : Option Nat) (s s' : Nat) : (nxS W l wh p k (bo, s)).1 = (nxS W l wh p k (bo, s')).1 := by
  unfold nxS
  cases bes (wN W) (gN W) p k with
  | none => rfl
  | some q =>
    simp only [Option.elim_some, nxQ]
    split
    · split
      · rfl
      · split
        · rfl
        · split <;> rfl
    · rfl
theorem nxR_1 (W : WD) (l : Nat) (wh : Nat → Bool) (p sl sl' : Nat) : (nxR W l wh p sl).1 = (nxR W l wh p sl').1 := by
  have key : ∀ n s s', (lp (nxS W l wh p) n (none, s)).1 = (lp (nxS W l wh p) n (none, s')).1 := by
    intro n s s'
    induction n with
    | zero => rfl
    | succ n ih =>
      rw [lp_s, lp_s]
      have e : (nxS W l wh p n (lp (nxS W l wh p) n (none, s))).1 = (nxS W l wh p n ((lp (nxS W l wh p) n (none, s)).1, (lp (nxS W l wh p) n (none, s')).2)).1 := nxS_1 W l wh p n (lp (nxS W l wh p) n (none, s)).1 (lp (nxS W l wh p) n (none, s)).2 (lp (nxS W l wh p) n (none, s')).2
      rw [ih] at e
      exact e
  exact key 4 sl sl'
def goS (W : WD) : Nat → Nat → Nat → Int32 → Nat → Int32 × Nat
  | 0, _, _, set, sl => (set, sl)
  | n + 1, l, p, set, sl => (nxR W l (fun q => !crk W q && !bt set q) p sl).1.elim (set, (nxR W l (fun q => !crk W q && !bt set q) p sl).2) (fun q => goS W n (l - 5 * tN W q) q (set ||| shl1 q) (nxR W l (fun q => !crk W q && !bt set q) p sl).2)
theorem goS_n {W : WD} {n l p : Nat} {set : Int32} {sl : Nat} (e : (nxR W l (fun q => !crk W q && !bt set q) p sl).1 = none) : goS W (n + 1) l p set sl = (set, (nxR W l (fun q => !crk W q && !bt set q) p sl).2) := by rw [goS, e]; rfl
theorem goS_s {W : WD} {n l p q : Nat} {set : Int32} {sl : Nat} (e : (nxR W l (fun q => !crk W q && !bt set q) p sl).1 = some q) : goS W (n + 1) l p set sl = goS W n (l - 5 * tN W q) q (set ||| shl1 q) (nxR W l (fun q => !crk W q && !bt set q) p sl).2 := by rw [goS, e]; rfl
theorem goS_1 (W : WD) : ∀ (n l p : Nat) (set : Int32) (sl sl' : Nat), (goS W n l p set sl).1 = (goS W n l p set sl').1
  | 0, _, _, _, _, _ => rfl
  | n + 1, l, p, set, sl, sl' => by
    have e := nxR_1 W l (fun q => !crk W q && !bt set q) p sl sl'
    cases e1 : (nxR W l (fun q => !crk W q && !bt set q) p sl).1 with
    | none => rw [goS_n e1, goS_n (e ▸ e1)]
    | some q => rw [goS_s e1, goS_s (e ▸ e1)]; exact goS_1 W n _ _ _ _ _
def beaN (W : WD) (p : Nat) : Nat := (bea W p).toNatClampNeg
theorem mx0_toInt (x : Int32) : (mx x 0).toInt = max x.toInt 0 := by
  unfold mx
  have z : (0 : Int32).toInt = 0 := by decide
  split
  · rename_i q; rw [i_le, z] at q; omega
  · rename_i q; rw [i_le, z] at q; rw [z]; omega
theorem mn0_toInt (x : Int32) : (mn x 0).toInt = min x.toInt 0 := by
  unfold mn
  have z : (0 : Int32).toInt = 0 := by decide
  split
  · rename_i q; rw [i_le, z] at q; omega
  · rename_i q; rw [i_le, z] at q; rw [z]; omega
theorem beaT_toInt {W : WD} (R : rng W) {p t : Nat} (hp : p < 30) (ht : t ≤ 9) : (beaT W p (nI t)).toInt = if brk W p = true then 0 else max ((10 * t * t : Nat) - 30 * (W (7 + 6 * p + 3)).toInt + min (W (7 + 6 * p + 1)).toInt 0) 0 := by
  obtain ⟨-, hh, -, hc, -⟩ := rP R hp
  unfold bd at hh hc
  have tt : 10 * t * t ≤ 10 * 9 * 9 := Nat.mul_le_mul (Nat.mul_le_mul_left _ ht) ht
  have e1 : (10 * nI t * nI t).toInt = ((10 * t * t : Nat) : Int) := by
    have : (10 : Int32) * nI t * nI t = nI (10 * t * t) := by rw [← pk_mul, ← pk_mul]; rfl
    rw [this, nI_toInt (by omega)]
  have k30 : (30 : Int32).toInt = 30 := by decide
  have e2 : (30 * W (7 + 6 * p + 3)).toInt = 30 * (W (7 + 6 * p + 3)).toInt := by rw [fb_mulI (by rw [k30]; omega) (by rw [k30]; omega), k30]
  have e3 := mn0_toInt (W (7 + 6 * p + 1))
  have e4 : (10 * nI t * nI t - 30 * W (7 + 6 * p + 3)).toInt = (10 * t * t : Nat) - 30 * (W (7 + 6 * p + 3)).toInt := by rw [fb_subI (by rw [e1, e2]; omega) (by rw [e1, e2]; omega), e1, e2]
  unfold beaT
  split
  · decide
  · rw [mx0_toInt, fb_addI (by rw [e4, e3]; omega) (by rw [e4, e3]; omega), e4, e3]
theorem bea_T {W : WD} (R : rng W) {p : Nat} (hp : p < 30) : bea W p = beaT W p (nI (tN W p)) := by unfold bea; rw [← (tNe R hp).1]
theorem beaN_e {W : WD} (R : rng W) {p : Nat} (hp : p < 30) : bea W p = nI (beaN W p) ∧ beaN W p ≤ 810 := by
  obtain ⟨te, t1, t9⟩ := tNe R hp
  have h := beaT_toInt R hp t9
  have tt : 10 * tN W p * tN W p ≤ 10 * 9 * 9 := Nat.mul_le_mul (Nat.mul_le_mul_left _ t9) t9
  rw [← bea_T R hp] at h
  obtain ⟨-, hh, -, hc, -⟩ := rP R hp
  unfold bd at hh hc
  have b : bd 0 810 (bea W p) := by
    unfold bd
    rw [h]
    split <;> omega
  have c := bd_nI b (by omega)
  refine ⟨c.1, ?_⟩
  unfold beaN
  unfold bd at b
  omega
def stS (W : WD) (p f : Nat) : Int32 × Nat := if f ≤ beaN W p then (0, 1000) else goS W 30 (f - beaN W p) p (if brk W p = true then 0 else shl1 p) 1000
theorem shl_nI (q : Nat) : (1 : Int32) <<< (nI q &&& 31) = shl1 q := rfl
section Strike
variable {h : mH} {a : Nat} {W : WD}
theorem strike_loop (O : mO) (d : Nat) (H : CA h a W) (ha : a < 28) (K : KA h) (R : rng W) (pane force : Int32) : ∀ (n i l p sl : Nat) (set whole : Int32) (v : Value), i + n = 30 → p < pN W → l < 2 ^ 20 → sl ≤ 1000 → (∀ q, q < pN W → bt whole q = (!crk W q && !bt set q)) →
    ev O (d + 2) 24 67 [.ref 55, .ref a, .int pane, .int force, .int (nI l), .int set, .int whole, .int (nI p), .int (nI i), v] [] (hk h sl) = some (.inl (some (.int ((goS W n l p set sl).1))), hk h (goS W n l p set sl).2) := by
  have hN := pN_le R
  intro n
  induction n with
  | zero =>
    intro i l p sl set whole v hi hp hl hs hw
    have : i = 30 := by omega
    subst this
    rw [e_24_67]
    simp only [e_24_0, e_24_1, e_24_4, e_24_7, e_24_8, e_24_9, e_24_10, e_24_13, e_24_14, e_24_16, e_24_18, e_24_21, e_24_22, e_24_23, e_24_24, e_24_27, e_24_28, e_24_29, e_24_30, e_24_33, e_24_34, e_24_35, e_24_36, e_24_39, e_24_40, e_24_42, e_24_43, e_24_46, e_24_47, e_24_48, e_24_51, e_24_52, e_24_53, e_24_54, e_24_56, e_24_57, e_24_58, e_24_59, e_24_61, e_24_62, e_24_64, e_24_65, e_24_69, e_24_71, e_24_74, e_24_75, e_24_76, e_24_78, e_24_80, e_24_82, e_24_85, e_24_87, e_24_89, e_24_90, e_24_93, e_24_96, e_24_98, e_24_99, e_24_101, e_24_102, e_24_103, e_24_105, e_24_107, e_24_108, e_24_110, e_24_111, e_24_112, e_24_113, e_24_114, e_24_116, e_24_118, e_24_119, e_24_120, e_24_123, e_24_125, e_24_126, e_24_127, e_24_128, e_24_130, e_24_132, e_24_134, e_24_137, e_24_140, e_24_142, Option.bind_some, Option.bind_none, m_kt, m_kn, Option.toList_some, Option.toList_none, List.nil_append, List.cons_append, List.append_nil, ltn, ite_not, ↓reduceIte, true_or, or_true, nP1, oI_s, oI_n, bI_f, bI_t, i1_0, i0_0, Bool.false_eq_true, not_true_eq_false, not_false_eq_true, (show ((30 : Int32) ≤ nI 30) = True by decide)]
    rfl
  | succ n ih =>
    intro i l p sl set whole v hi hp hl hs hw
    have h1 : ¬ (30 : Int32) ≤ nI i := nI_ge (b := 30) (by omega) (by omega)
    have hx := nextPane_ev O d H ha K R hp hl hs whole
    have hr : lp (nxS W l (bt whole) p) 4 (none, sl) = nxR W l (fun q => !crk W q && !bt set q) p sl := nxR_congr R hp hw
    rw [hr] at hx
    have hI := nxR_I R (l := l) (wh := fun q => !crk W q && !bt set q) hp hs
    rw [e_24_67]
    simp only [e_24_0, e_24_1, e_24_4, e_24_7, e_24_8, e_24_9, e_24_10, e_24_13, e_24_14, e_24_16, e_24_18, e_24_21, e_24_22, e_24_23, e_24_24, e_24_27, e_24_28, e_24_29, e_24_30, e_24_33, e_24_34, e_24_35, e_24_36, e_24_39, e_24_40, e_24_42, e_24_43, e_24_46, e_24_47, e_24_48, e_24_51, e_24_52, e_24_53, e_24_54, e_24_56, e_24_57, e_24_58, e_24_59, e_24_61, e_24_62, e_24_64, e_24_65, e_24_69, e_24_71, e_24_74, e_24_75, e_24_76, e_24_78, e_24_80, e_24_82, e_24_85, e_24_87, e_24_89, e_24_90, e_24_93, e_24_96, e_24_98, e_24_99, e_24_101, e_24_102, e_24_103, e_24_105, e_24_107, e_24_108, e_24_110, e_24_111, e_24_112, e_24_113, e_24_114, e_24_116, e_24_118, e_24_119, e_24_120, e_24_123, e_24_125, e_24_126, e_24_127, e_24_128, e_24_130, e_24_132, e_24_134, e_24_137, e_24_140, e_24_142, Option.bind_some, Option.bind_none, m_kt, m_kn, Option.toList_some, Option.toList_none, List.nil_append, List.cons_append, List.append_nil, ltn, ite_not, ↓reduceIte, true_or, or_true, nP1, oI_s, oI_n, bI_f, bI_t, i1_0, i0_0, Bool.false_eq_true, not_true_eq_false, not_false_eq_true, h1, hk_isc K, hx]
    cases e : (nxR W l (fun q => !crk W q && !bt set q) p sl).1 with
    | none =>
      rw [goS_n e]
      simp only [e_24_0, e_24_1, e_24_4, e_24_7, e_24_8, e_24_9, e_24_10, e_24_13, e_24_14, e_24_16, e_24_18, e_24_21, e_24_22, e_24_23, e_24_24, e_24_27, e_24_28, e_24_29, e_24_30, e_24_33, e_24_34, e_24_35, e_24_36, e_24_39, e_24_40, e_24_42, e_24_43, e_24_46, e_24_47, e_24_48, e_24_51, e_24_52, e_24_53, e_24_54, e_24_56, e_24_57, e_24_58, e_24_59, e_24_61, e_24_62, e_24_64, e_24_65, e_24_69, e_24_71, e_24_74, e_24_75, e_24_76, e_24_78, e_24_80, e_24_82, e_24_85, e_24_87, e_24_89, e_24_90, e_24_93, e_24_96, e_24_98, e_24_99, e_24_101, e_24_102, e_24_103, e_24_105, e_24_107, e_24_108, e_24_110, e_24_111, e_24_112, e_24_113, e_24_114, e_24_116, e_24_118, e_24_119, e_24_120, e_24_123, e_24_125, e_24_126, e_24_127, e_24_128, e_24_130, e_24_132, e_24_134, e_24_137, e_24_140, e_24_142, Option.bind_some, Option.bind_none, m_kt, m_kn, Option.toList_some, Option.toList_none, List.nil_append, List.cons_append, List.append_nil, ltn, ite_not, ↓reduceIte, true_or, or_true, nP1, oI_s, oI_n, bI_f, bI_t, i1_0, i0_0, Bool.false_eq_true, not_true_eq_false, not_false_eq_true]
    | some q =>
      obtain ⟨hq, wq, tq⟩ := hI.2 q e
      obtain ⟨te, t1, t9⟩ := tNe R (show q < 30 by omega)
      rw [goS_s e]
      have hm : nI l - 5 * nI (tN W q) = nI (l - 5 * tN W q) := by rw [n5, pk_sub (by omega)]
      generalize (nxR W l (fun q => !crk W q && !bt set q) p sl).2 = s2 at *
      simp only [e_24_0, e_24_1, e_24_4, e_24_7, e_24_8, e_24_9, e_24_10, e_24_13, e_24_14, e_24_16, e_24_18, e_24_21, e_24_22, e_24_23, e_24_24, e_24_27, e_24_28, e_24_29, e_24_30, e_24_33, e_24_34, e_24_35, e_24_36, e_24_39, e_24_40, e_24_42, e_24_43, e_24_46, e_24_47, e_24_48, e_24_51, e_24_52, e_24_53, e_24_54, e_24_56, e_24_57, e_24_58, e_24_59, e_24_61, e_24_62, e_24_64, e_24_65, e_24_69, e_24_71, e_24_74, e_24_75, e_24_76, e_24_78, e_24_80, e_24_82, e_24_85, e_24_87, e_24_89, e_24_90, e_24_93, e_24_96, e_24_98, e_24_99, e_24_101, e_24_102, e_24_103, e_24_105, e_24_107, e_24_108, e_24_110, e_24_111, e_24_112, e_24_113, e_24_114, e_24_116, e_24_118, e_24_119, e_24_120, e_24_123, e_24_125, e_24_126, e_24_127, e_24_128, e_24_130, e_24_132, e_24_134, e_24_137, e_24_140, e_24_142, Option.bind_some, Option.bind_none, m_kt, m_kn, Option.toList_some, Option.toList_none, List.nil_append, List.cons_append, List.append_nil, ltn, ite_not, ↓reduceIte, true_or, or_true, nP1, oI_s, oI_n, bI_f, bI_t, i1_0, i0_0, Bool.false_eq_true, not_true_eq_false, not_false_eq_true, nm1 (show q < 2 ^ 31 by omega), gC6 (H.hk ha s2), (H.hk ha s2).t0 (show q < 30 by omega), te, hm, shl_nI]
      refine ih (i + 1) _ q s2 _ _ _ (by omega) hq (by omega) hI.1 (fun r hr => ?_)
      rw [b_and, bt_not _ (by omega), bt_shl1 (by omega) (by omega), b_or, bt_shl1 (by omega) (by omega), hw r hr]
      cases crk W r <;> cases bt set r <;> cases decide (r = q) <;> rfl
theorem wcS_bs (W : WD) (l : Int32) : wcS W l = bs (pN W) (fun p => decide (l ≤ W (7 + 6 * p + 3))) := lp_congr (fun i s _ => by simp only [decide_eq_true_eq]) 0
theorem strike_ev (O : mO) (d : Nat) (H : CA h a W) (ha : a < 28) (K : KA h) (R : rng W) {p f : Nat} (hp : p < pN W) (hf : f < 2 ^ 20) :
    ev O (d + 2) 24 0 [.ref 55, .ref a, .int (nI p), .int (nI f), mJ, mJ, mJ, mJ, mJ, mJ] [] h = some (.inl (some (.int ((stS W p f).1))), hk h (stS W p f).2) := by
  have hN := pN_le R
  have hw := R.1.1.2
  have hg := R.1.2.1.2
  obtain ⟨be, bl⟩ := beaN_e R (show p < 30 by omega)
  have H1 := H.hk ha 1000
  have k1 : m_pf h 55 1 0 (.int 1000) = some (hk h 1000) := hk_p0 K 1000
  unfold stS
  simp only [e_24_0, e_24_1, e_24_4, e_24_7, e_24_8, e_24_9, e_24_10, e_24_13, e_24_14, e_24_16, e_24_18, e_24_21, e_24_22, e_24_23, e_24_24, e_24_27, e_24_28, e_24_29, e_24_30, e_24_33, e_24_34, e_24_35, e_24_36, e_24_39, e_24_40, e_24_42, e_24_43, e_24_46, e_24_47, e_24_48, e_24_51, e_24_52, e_24_53, e_24_54, e_24_56, e_24_57, e_24_58, e_24_59, e_24_61, e_24_62, e_24_64, e_24_65, e_24_69, e_24_71, e_24_74, e_24_75, e_24_76, e_24_78, e_24_80, e_24_82, e_24_85, e_24_87, e_24_89, e_24_90, e_24_93, e_24_96, e_24_98, e_24_99, e_24_101, e_24_102, e_24_103, e_24_105, e_24_107, e_24_108, e_24_110, e_24_111, e_24_112, e_24_113, e_24_114, e_24_116, e_24_118, e_24_119, e_24_120, e_24_123, e_24_125, e_24_126, e_24_127, e_24_128, e_24_130, e_24_132, e_24_134, e_24_137, e_24_140, e_24_142, Option.bind_some, Option.bind_none, m_kt, m_kn, Option.toList_some, Option.toList_none, List.nil_append, List.cons_append, List.append_nil, ltn, ite_not, ↓reduceIte, true_or, or_true, nP1, oI_s, oI_n, bI_f, bI_t, i1_0, i0_0, Bool.false_eq_true, not_true_eq_false, not_false_eq_true, k1, H1.isc, bears_ev O d H1 R (show p < 30 by omega), be, sub_le0 (show f < 2 ^ 30 by omega) (show beaN W p < 2 ^ 30 by omega)]
  by_cases c : f ≤ beaN W p
  · simp only [c, ↓reduceIte]
  · simp only [c, ↓reduceIte, pk_sub (Nat.le_of_not_le c)]
    have main := fun set whole v hw => strike_loop O d H ha K R (nI p) (nI f) 30 0 (f - beaN W p) p 1000 set whole v (by omega) hp (by omega) (by omega) hw
    simp only [nI_0] at main
    have hall : ∀ set : Int32, ∀ q, q < pN W → bt ((allI (wN W) (gN W) &&& (wcS W 1 ^^^ (-1))) &&& (set ^^^ (-1))) q = (!crk W q && !bt set q) := by
      intro set q hq
      have hq' : q < wN W * gN W := hq
      rw [b_and, b_and, bt_not _ (by omega), bt_not _ (by omega), bt_all (show wN W * gN W < 31 by unfold pN at hN; omega) (by omega), wcS_bs, bt_bs (by omega) _ (by omega), decide_eq_true hq', decide_eq_true hq]
      simp only [Bool.true_and]
      rfl
    cases hbr : brk W p
    · simp only [e_24_0, e_24_1, e_24_4, e_24_7, e_24_8, e_24_9, e_24_10, e_24_13, e_24_14, e_24_16, e_24_18, e_24_21, e_24_22, e_24_23, e_24_24, e_24_27, e_24_28, e_24_29, e_24_30, e_24_33, e_24_34, e_24_35, e_24_36, e_24_39, e_24_40, e_24_42, e_24_43, e_24_46, e_24_47, e_24_48, e_24_51, e_24_52, e_24_53, e_24_54, e_24_56, e_24_57, e_24_58, e_24_59, e_24_61, e_24_62, e_24_64, e_24_65, e_24_69, e_24_71, e_24_74, e_24_75, e_24_76, e_24_78, e_24_80, e_24_82, e_24_85, e_24_87, e_24_89, e_24_90, e_24_93, e_24_96, e_24_98, e_24_99, e_24_101, e_24_102, e_24_103, e_24_105, e_24_107, e_24_108, e_24_110, e_24_111, e_24_112, e_24_113, e_24_114, e_24_116, e_24_118, e_24_119, e_24_120, e_24_123, e_24_125, e_24_126, e_24_127, e_24_128, e_24_130, e_24_132, e_24_134, e_24_137, e_24_140, e_24_142, Option.bind_some, Option.bind_none, m_kt, m_kn, Option.toList_some, Option.toList_none, List.nil_append, List.cons_append, List.append_nil, ltn, ite_not, ↓reduceIte, true_or, or_true, nP1, oI_s, oI_n, bI_f, bI_t, i1_0, i0_0, Bool.false_eq_true, not_true_eq_false, not_false_eq_true, gC9 H1, H1.t3 (show p < 30 by omega), brk_le R (show p < 30 by omega), gC3 H1, H1.isc, withCracks_ev O (d + 1) H1 R, shl_nI, hbr]
      exact main _ _ _ (hall _)
    · simp only [e_24_0, e_24_1, e_24_4, e_24_7, e_24_8, e_24_9, e_24_10, e_24_13, e_24_14, e_24_16, e_24_18, e_24_21, e_24_22, e_24_23, e_24_24, e_24_27, e_24_28, e_24_29, e_24_30, e_24_33, e_24_34, e_24_35, e_24_36, e_24_39, e_24_40, e_24_42, e_24_43, e_24_46, e_24_47, e_24_48, e_24_51, e_24_52, e_24_53, e_24_54, e_24_56, e_24_57, e_24_58, e_24_59, e_24_61, e_24_62, e_24_64, e_24_65, e_24_69, e_24_71, e_24_74, e_24_75, e_24_76, e_24_78, e_24_80, e_24_82, e_24_85, e_24_87, e_24_89, e_24_90, e_24_93, e_24_96, e_24_98, e_24_99, e_24_101, e_24_102, e_24_103, e_24_105, e_24_107, e_24_108, e_24_110, e_24_111, e_24_112, e_24_113, e_24_114, e_24_116, e_24_118, e_24_119, e_24_120, e_24_123, e_24_125, e_24_126, e_24_127, e_24_128, e_24_130, e_24_132, e_24_134, e_24_137, e_24_140, e_24_142, Option.bind_some, Option.bind_none, m_kt, m_kn, Option.toList_some, Option.toList_none, List.nil_append, List.cons_append, List.append_nil, ltn, ite_not, ↓reduceIte, true_or, or_true, nP1, oI_s, oI_n, bI_f, bI_t, i1_0, i0_0, Bool.false_eq_true, not_true_eq_false, not_false_eq_true, gC9 H1, H1.t3 (show p < 30 by omega), brk_le R (show p < 30 by omega), gC3 H1, H1.isc, withCracks_ev O (d + 1) H1 R, shl_nI, hbr]
      exact main _ _ _ (hall _)
end Strike
/-! The reference's gets -/
section Gets
variable {h : mH} {W : WD}
theorem runsTo_ev (O : mO) (d : Nat) (H : MW h W) (R : rng W) {p l : Nat} (sl : Nat) (hp : p < pN W) (hl : l < 2 ^ 20) (got : Int32) :
    ev O (d + 2) 224 0 [.ref 66, .int (nI p), .int (nI l), .int got, mJ, mJ, mJ, mJ, mJ] [] h = some (.inl (some (.int (oI (nxR W l (fun q => !crk W q && !bt got q) p sl).1))), h) := by
  have hN := pN_le R
  have hw := R.1.1.2
  obtain ⟨re, rl⟩ := rNe R
  have e := lp_runVI (ν := Value × Value) (fun _ (s : Option Nat × Nat) => ∀ b, s.1 = some b → b < 30) (F := fun i s v => ev O (d + 2) 224 9 [.ref 66, .int (nI p), .int (nI l), .int got, .int (oI s.1), .int (mmI W p s.1), .int (nI i), v.1, v.2] [] h) (f := nxS W l (fun q => !crk W q && !bt got q) p) (n := 4) (s := (none, sl)) (fun b e => by cases e) (fun i s v hi i2 => by
    obtain ⟨bo, s2⟩ := s
    simp only at i2
    have h1 : ¬ (4 : Int32) ≤ nI i := nI_ge (b := 4) hi (by omega)
    have hb := mbeside_ev O d H R hp hi
    unfold nxS
    simp only
    rw [e_224_9]
    simp only [e_224_0, e_224_1, e_224_3, e_224_4, e_224_6, e_224_7, e_224_11, e_224_12, e_224_15, e_224_16, e_224_17, e_224_19, e_224_22, e_224_24, e_224_26, e_224_29, e_224_30, e_224_32, e_224_35, e_224_38, e_224_39, e_224_41, e_224_42, e_224_45, e_224_48, e_224_49, e_224_50, e_224_51, e_224_53, e_224_54, e_224_57, e_224_58, e_224_61, e_224_64, e_224_65, e_224_67, e_224_68, e_224_71, e_224_72, e_224_73, e_224_74, e_224_77, e_224_78, e_224_81, e_224_83, e_224_85, e_224_86, e_224_89, e_224_91, e_224_92, e_224_95, e_224_97, e_224_100, e_224_102, e_224_104, e_224_107, e_224_110, e_224_112, e_224_114, e_224_116, e_224_118, e_224_121, e_224_124, e_224_126, Option.bind_some, Option.bind_none, m_kt, m_kn, Option.toList_some, Option.toList_none, List.nil_append, List.cons_append, List.append_nil, ltn, ite_not, ↓reduceIte, true_or, or_true, nP1, oI_s, oI_n, bI_f, bI_t, i1_0, i0_0, Bool.false_eq_true, not_true_eq_false, not_false_eq_true, h1, H.1, hb]
    cases e : bes (wN W) (gN W) p i with
    | none =>
      refine ⟨i2, ?_⟩
      simp only [e_224_0, e_224_1, e_224_3, e_224_4, e_224_6, e_224_7, e_224_11, e_224_12, e_224_15, e_224_16, e_224_17, e_224_19, e_224_22, e_224_24, e_224_26, e_224_29, e_224_30, e_224_32, e_224_35, e_224_38, e_224_39, e_224_41, e_224_42, e_224_45, e_224_48, e_224_49, e_224_50, e_224_51, e_224_53, e_224_54, e_224_57, e_224_58, e_224_61, e_224_64, e_224_65, e_224_67, e_224_68, e_224_71, e_224_72, e_224_73, e_224_74, e_224_77, e_224_78, e_224_81, e_224_83, e_224_85, e_224_86, e_224_89, e_224_91, e_224_92, e_224_95, e_224_97, e_224_100, e_224_102, e_224_104, e_224_107, e_224_110, e_224_112, e_224_114, e_224_116, e_224_118, e_224_121, e_224_124, e_224_126, Option.bind_some, Option.bind_none, m_kt, m_kn, Option.toList_some, Option.toList_none, List.nil_append, List.cons_append, List.append_nil, ltn, ite_not, ↓reduceIte, true_or, or_true, nP1, oI_s, oI_n, bI_f, bI_t, i1_0, i0_0, Bool.false_eq_true, not_true_eq_false, not_false_eq_true, Option.elim_none, m1_0]
      exact ⟨(_, _), rfl⟩
    | some q =>
      have hq : q < pN W := bes_lt hw.1 hp e
      have hq3 : q < 30 := by omega
      have hp3 : p < 30 := by omega
      obtain ⟨te, t1, t9⟩ := tNe R hq3
      have ol := ofN_le R hq3 hp3
      refine ⟨?_, ?_⟩
      · simp only [Option.elim_some, nxQ]
        split
        · split
          · exact i2
          · split
            · exact i2
            · split
              · exact fun b e => by cases e; exact hq3
              · exact i2
        · exact i2
      simp only [Option.elim_some, nxQ]
      have m0 : (0 ≤ oI bo) = (bo.isSome = true) := by
        cases bo with
        | none => simp only [oI_n, m1_0, Option.isSome_none, Bool.false_eq_true]
        | some b => have := i2 b rfl; simp only [oI_s, n0le (show b < 2 ^ 31 by omega), Option.isSome_some]
      have m1 : bo.isSome = true → (nI (ofN W q p) ≤ mmI W p bo) = ¬ (bet W p q bo = true) := by
        intro hs
        cases bo with
        | none => cases hs
        | some b =>
          have ob := ofN_le R (i2 b rfl) hp3
          simp only [mmI_s, bet, decide_eq_true_eq, nLe (show ofN W q p < 2 ^ 31 by omega) (show ofN W b p < 2 ^ 31 by omega)]
          apply propext; omega
      have m2 : (nI l ≤ 5 * nI (tN W q)) = (l ≤ 5 * tN W q) := by rw [n5, nLe (by omega) (by omega)]
      have m5 : (1 ≤ W (7 + 6 * q + 3)) = (crk W q = true) := by unfold crk; rw [decide_eq_true_eq]
      have hf : (0 ≤ nI q) = True := n0le (by omega)
      cases c0 : bt got q
      · cases c1 : crk W q
        · by_cases c3 : l ≤ 5 * tN W q
          · simp only [e_224_0, e_224_1, e_224_3, e_224_4, e_224_6, e_224_7, e_224_11, e_224_12, e_224_15, e_224_16, e_224_17, e_224_19, e_224_22, e_224_24, e_224_26, e_224_29, e_224_30, e_224_32, e_224_35, e_224_38, e_224_39, e_224_41, e_224_42, e_224_45, e_224_48, e_224_49, e_224_50, e_224_51, e_224_53, e_224_54, e_224_57, e_224_58, e_224_61, e_224_64, e_224_65, e_224_67, e_224_68, e_224_71, e_224_72, e_224_73, e_224_74, e_224_77, e_224_78, e_224_81, e_224_83, e_224_85, e_224_86, e_224_89, e_224_91, e_224_92, e_224_95, e_224_97, e_224_100, e_224_102, e_224_104, e_224_107, e_224_110, e_224_112, e_224_114, e_224_116, e_224_118, e_224_121, e_224_124, e_224_126, Option.bind_some, Option.bind_none, m_kt, m_kn, Option.toList_some, Option.toList_none, List.nil_append, List.cons_append, List.append_nil, ltn, ite_not, ↓reduceIte, true_or, or_true, nP1, oI_s, oI_n, bI_f, bI_t, i1_0, i0_0, Bool.false_eq_true, not_true_eq_false, not_false_eq_true, H.1, H.2.1, H.w6, has_ev O (d + 1) h got (show q < 32 by omega), of0_ev O (d + 1) H hq3, of1_ev O (d + 1) H hq3, of1_ev O (d + 1) H hp3, of3_ev O (d + 1) H hq3, abs_of R hq3 hp3, re, te, m0, m2, m5, hf, c0, c1, c3, nle01, Bool.not_false, Bool.and_true, Bool.and_false]
            split
            · exact ⟨(_, _), rfl⟩
            · exact ⟨(_, _), rfl⟩
          · by_cases c2 : rN W ≤ ofN W q p
            · cases hbo : bo.isSome
              · have hn : bo = none := by cases bo with
                  | none => rfl
                  | some b => cases hbo
                subst hn
                simp only [e_224_0, e_224_1, e_224_3, e_224_4, e_224_6, e_224_7, e_224_11, e_224_12, e_224_15, e_224_16, e_224_17, e_224_19, e_224_22, e_224_24, e_224_26, e_224_29, e_224_30, e_224_32, e_224_35, e_224_38, e_224_39, e_224_41, e_224_42, e_224_45, e_224_48, e_224_49, e_224_50, e_224_51, e_224_53, e_224_54, e_224_57, e_224_58, e_224_61, e_224_64, e_224_65, e_224_67, e_224_68, e_224_71, e_224_72, e_224_73, e_224_74, e_224_77, e_224_78, e_224_81, e_224_83, e_224_85, e_224_86, e_224_89, e_224_91, e_224_92, e_224_95, e_224_97, e_224_100, e_224_102, e_224_104, e_224_107, e_224_110, e_224_112, e_224_114, e_224_116, e_224_118, e_224_121, e_224_124, e_224_126, Option.bind_some, Option.bind_none, m_kt, m_kn, Option.toList_some, Option.toList_none, List.nil_append, List.cons_append, List.append_nil, ltn, ite_not, ↓reduceIte, true_or, or_true, nP1, oI_s, oI_n, bI_f, bI_t, i1_0, i0_0, Bool.false_eq_true, not_true_eq_false, not_false_eq_true, H.1, H.2.1, H.w6, has_ev O (d + 1) h got (show q < 32 by omega), of0_ev O (d + 1) H hq3, of1_ev O (d + 1) H hq3, of1_ev O (d + 1) H hp3, of3_ev O (d + 1) H hq3, abs_of R hq3 hp3, re, te, m0, m2, m5, hf, c0, c1, c3, c2, nle01, Bool.not_false, Bool.and_true, Bool.and_false, nLe (show rN W < 2 ^ 31 by omega) (show ofN W q p < 2 ^ 31 by omega), Nat.not_lt.mpr c2, bet, mmI_s, hbo, m1_0]
                exact ⟨(_, _), rfl⟩
              · have m1' := m1 hbo
                cases hbe : bet W p q bo
                · simp only [e_224_0, e_224_1, e_224_3, e_224_4, e_224_6, e_224_7, e_224_11, e_224_12, e_224_15, e_224_16, e_224_17, e_224_19, e_224_22, e_224_24, e_224_26, e_224_29, e_224_30, e_224_32, e_224_35, e_224_38, e_224_39, e_224_41, e_224_42, e_224_45, e_224_48, e_224_49, e_224_50, e_224_51, e_224_53, e_224_54, e_224_57, e_224_58, e_224_61, e_224_64, e_224_65, e_224_67, e_224_68, e_224_71, e_224_72, e_224_73, e_224_74, e_224_77, e_224_78, e_224_81, e_224_83, e_224_85, e_224_86, e_224_89, e_224_91, e_224_92, e_224_95, e_224_97, e_224_100, e_224_102, e_224_104, e_224_107, e_224_110, e_224_112, e_224_114, e_224_116, e_224_118, e_224_121, e_224_124, e_224_126, Option.bind_some, Option.bind_none, m_kt, m_kn, Option.toList_some, Option.toList_none, List.nil_append, List.cons_append, List.append_nil, ltn, ite_not, ↓reduceIte, true_or, or_true, nP1, oI_s, oI_n, bI_f, bI_t, i1_0, i0_0, Bool.false_eq_true, not_true_eq_false, not_false_eq_true, H.1, H.2.1, H.w6, has_ev O (d + 1) h got (show q < 32 by omega), of0_ev O (d + 1) H hq3, of1_ev O (d + 1) H hq3, of1_ev O (d + 1) H hp3, of3_ev O (d + 1) H hq3, abs_of R hq3 hp3, re, te, m0, m2, m5, hf, c0, c1, c3, c2, nle01, Bool.not_false, Bool.and_true, Bool.and_false, nLe (show rN W < 2 ^ 31 by omega) (show ofN W q p < 2 ^ 31 by omega), Nat.not_lt.mpr c2, hbo, m1', hbe]
                  exact ⟨(_, _), rfl⟩
                · simp only [e_224_0, e_224_1, e_224_3, e_224_4, e_224_6, e_224_7, e_224_11, e_224_12, e_224_15, e_224_16, e_224_17, e_224_19, e_224_22, e_224_24, e_224_26, e_224_29, e_224_30, e_224_32, e_224_35, e_224_38, e_224_39, e_224_41, e_224_42, e_224_45, e_224_48, e_224_49, e_224_50, e_224_51, e_224_53, e_224_54, e_224_57, e_224_58, e_224_61, e_224_64, e_224_65, e_224_67, e_224_68, e_224_71, e_224_72, e_224_73, e_224_74, e_224_77, e_224_78, e_224_81, e_224_83, e_224_85, e_224_86, e_224_89, e_224_91, e_224_92, e_224_95, e_224_97, e_224_100, e_224_102, e_224_104, e_224_107, e_224_110, e_224_112, e_224_114, e_224_116, e_224_118, e_224_121, e_224_124, e_224_126, Option.bind_some, Option.bind_none, m_kt, m_kn, Option.toList_some, Option.toList_none, List.nil_append, List.cons_append, List.append_nil, ltn, ite_not, ↓reduceIte, true_or, or_true, nP1, oI_s, oI_n, bI_f, bI_t, i1_0, i0_0, Bool.false_eq_true, not_true_eq_false, not_false_eq_true, H.1, H.2.1, H.w6, has_ev O (d + 1) h got (show q < 32 by omega), of0_ev O (d + 1) H hq3, of1_ev O (d + 1) H hq3, of1_ev O (d + 1) H hp3, of3_ev O (d + 1) H hq3, abs_of R hq3 hp3, re, te, m0, m2, m5, hf, c0, c1, c3, c2, nle01, Bool.not_false, Bool.and_true, Bool.and_false, nLe (show rN W < 2 ^ 31 by omega) (show ofN W q p < 2 ^ 31 by omega), Nat.not_lt.mpr c2, hbo, m1', hbe, mmI_s]
                  exact ⟨(_, _), rfl⟩
            · simp only [e_224_0, e_224_1, e_224_3, e_224_4, e_224_6, e_224_7, e_224_11, e_224_12, e_224_15, e_224_16, e_224_17, e_224_19, e_224_22, e_224_24, e_224_26, e_224_29, e_224_30, e_224_32, e_224_35, e_224_38, e_224_39, e_224_41, e_224_42, e_224_45, e_224_48, e_224_49, e_224_50, e_224_51, e_224_53, e_224_54, e_224_57, e_224_58, e_224_61, e_224_64, e_224_65, e_224_67, e_224_68, e_224_71, e_224_72, e_224_73, e_224_74, e_224_77, e_224_78, e_224_81, e_224_83, e_224_85, e_224_86, e_224_89, e_224_91, e_224_92, e_224_95, e_224_97, e_224_100, e_224_102, e_224_104, e_224_107, e_224_110, e_224_112, e_224_114, e_224_116, e_224_118, e_224_121, e_224_124, e_224_126, Option.bind_some, Option.bind_none, m_kt, m_kn, Option.toList_some, Option.toList_none, List.nil_append, List.cons_append, List.append_nil, ltn, ite_not, ↓reduceIte, true_or, or_true, nP1, oI_s, oI_n, bI_f, bI_t, i1_0, i0_0, Bool.false_eq_true, not_true_eq_false, not_false_eq_true, H.1, H.2.1, H.w6, has_ev O (d + 1) h got (show q < 32 by omega), of0_ev O (d + 1) H hq3, of1_ev O (d + 1) H hq3, of1_ev O (d + 1) H hp3, of3_ev O (d + 1) H hq3, abs_of R hq3 hp3, re, te, m0, m2, m5, hf, c0, c1, c3, c2, nle01, Bool.not_false, Bool.and_true, Bool.and_false, nLe (show rN W < 2 ^ 31 by omega) (show ofN W q p < 2 ^ 31 by omega), Nat.lt_of_not_le c2]
              exact ⟨(_, _), rfl⟩
        · simp only [e_224_0, e_224_1, e_224_3, e_224_4, e_224_6, e_224_7, e_224_11, e_224_12, e_224_15, e_224_16, e_224_17, e_224_19, e_224_22, e_224_24, e_224_26, e_224_29, e_224_30, e_224_32, e_224_35, e_224_38, e_224_39, e_224_41, e_224_42, e_224_45, e_224_48, e_224_49, e_224_50, e_224_51, e_224_53, e_224_54, e_224_57, e_224_58, e_224_61, e_224_64, e_224_65, e_224_67, e_224_68, e_224_71, e_224_72, e_224_73, e_224_74, e_224_77, e_224_78, e_224_81, e_224_83, e_224_85, e_224_86, e_224_89, e_224_91, e_224_92, e_224_95, e_224_97, e_224_100, e_224_102, e_224_104, e_224_107, e_224_110, e_224_112, e_224_114, e_224_116, e_224_118, e_224_121, e_224_124, e_224_126, Option.bind_some, Option.bind_none, m_kt, m_kn, Option.toList_some, Option.toList_none, List.nil_append, List.cons_append, List.append_nil, ltn, ite_not, ↓reduceIte, true_or, or_true, nP1, oI_s, oI_n, bI_f, bI_t, i1_0, i0_0, Bool.false_eq_true, not_true_eq_false, not_false_eq_true, H.1, H.2.1, has_ev O (d + 1) h got (show q < 32 by omega), of3_ev O (d + 1) H hq3, m5, hf, c0, c1, nle01, Bool.not_false, Bool.not_true, Bool.and_true, Bool.false_and]
          exact ⟨(_, _), rfl⟩
      · simp only [e_224_0, e_224_1, e_224_3, e_224_4, e_224_6, e_224_7, e_224_11, e_224_12, e_224_15, e_224_16, e_224_17, e_224_19, e_224_22, e_224_24, e_224_26, e_224_29, e_224_30, e_224_32, e_224_35, e_224_38, e_224_39, e_224_41, e_224_42, e_224_45, e_224_48, e_224_49, e_224_50, e_224_51, e_224_53, e_224_54, e_224_57, e_224_58, e_224_61, e_224_64, e_224_65, e_224_67, e_224_68, e_224_71, e_224_72, e_224_73, e_224_74, e_224_77, e_224_78, e_224_81, e_224_83, e_224_85, e_224_86, e_224_89, e_224_91, e_224_92, e_224_95, e_224_97, e_224_100, e_224_102, e_224_104, e_224_107, e_224_110, e_224_112, e_224_114, e_224_116, e_224_118, e_224_121, e_224_124, e_224_126, Option.bind_some, Option.bind_none, m_kt, m_kn, Option.toList_some, Option.toList_none, List.nil_append, List.cons_append, List.append_nil, ltn, ite_not, ↓reduceIte, true_or, or_true, nP1, oI_s, oI_n, bI_f, bI_t, i1_0, i0_0, Bool.false_eq_true, not_true_eq_false, not_false_eq_true, has_ev O (d + 1) h got (show q < 32 by omega), hf, c0, Bool.not_true, Bool.and_false]
        exact ⟨(_, _), rfl⟩) (mJ, mJ)
  simp only [e_224_0, e_224_1, e_224_3, e_224_4, e_224_6, e_224_7, e_224_11, e_224_12, e_224_15, e_224_16, e_224_17, e_224_19, e_224_22, e_224_24, e_224_26, e_224_29, e_224_30, e_224_32, e_224_35, e_224_38, e_224_39, e_224_41, e_224_42, e_224_45, e_224_48, e_224_49, e_224_50, e_224_51, e_224_53, e_224_54, e_224_57, e_224_58, e_224_61, e_224_64, e_224_65, e_224_67, e_224_68, e_224_71, e_224_72, e_224_73, e_224_74, e_224_77, e_224_78, e_224_81, e_224_83, e_224_85, e_224_86, e_224_89, e_224_91, e_224_92, e_224_95, e_224_97, e_224_100, e_224_102, e_224_104, e_224_107, e_224_110, e_224_112, e_224_114, e_224_116, e_224_118, e_224_121, e_224_124, e_224_126, Option.bind_some, Option.bind_none, m_kt, m_kn, Option.toList_some, Option.toList_none, List.nil_append, List.cons_append, List.append_nil, ltn, ite_not, ↓reduceIte, true_or, or_true]
  simp only [nI_0, oI_n, mmI] at e
  obtain ⟨-, v, e⟩ := e
  rw [e, e_224_9]
  simp only [e_224_0, e_224_1, e_224_3, e_224_4, e_224_6, e_224_7, e_224_11, e_224_12, e_224_15, e_224_16, e_224_17, e_224_19, e_224_22, e_224_24, e_224_26, e_224_29, e_224_30, e_224_32, e_224_35, e_224_38, e_224_39, e_224_41, e_224_42, e_224_45, e_224_48, e_224_49, e_224_50, e_224_51, e_224_53, e_224_54, e_224_57, e_224_58, e_224_61, e_224_64, e_224_65, e_224_67, e_224_68, e_224_71, e_224_72, e_224_73, e_224_74, e_224_77, e_224_78, e_224_81, e_224_83, e_224_85, e_224_86, e_224_89, e_224_91, e_224_92, e_224_95, e_224_97, e_224_100, e_224_102, e_224_104, e_224_107, e_224_110, e_224_112, e_224_114, e_224_116, e_224_118, e_224_121, e_224_124, e_224_126, Option.bind_some, Option.bind_none, m_kt, m_kn, Option.toList_some, Option.toList_none, List.nil_append, List.cons_append, List.append_nil, ltn, ite_not, ↓reduceIte, true_or, or_true, (show ((4 : Int32) ≤ nI 4) = True by decide)]
  rfl
theorem gets_loop (O : mO) (d : Nat) (H : MW h W) (R : rng W) (pane force : Int32) : ∀ (n l p : Nat) (got : Int32), fb_ct (fun q => !bt got q) (pN W) ≤ n → p < pN W → l < 2 ^ 20 →
    ev O (d + 3) 225 34 [.ref 66, .int pane, .int force, .int (nI l), .int got, .int (nI p)] [] h = some (.inl (some (.int ((goS W n l p got 1000).1))), h) := by
  have hN := pN_le R
  intro n
  induction n with
  | zero =>
    intro l p got hn hp hl
    have hx := runsTo_ev O d H R 1000 hp hl got
    have hI := nxR_I R (l := l) (wh := fun q => !crk W q && !bt got q) hp (show 1000 ≤ 1000 by omega)
    rw [e_225_34]
    simp only [e_225_0, e_225_1, e_225_2, e_225_3, e_225_6, e_225_7, e_225_8, e_225_9, e_225_12, e_225_13, e_225_14, e_225_15, e_225_16, e_225_19, e_225_22, e_225_23, e_225_26, e_225_27, e_225_28, e_225_29, e_225_31, e_225_32, e_225_36, e_225_39, e_225_40, e_225_42, e_225_43, e_225_45, e_225_48, e_225_50, e_225_52, e_225_55, e_225_58, e_225_60, e_225_61, e_225_63, e_225_64, e_225_65, e_225_67, e_225_68, e_225_69, e_225_70, e_225_72, e_225_73, e_225_76, e_225_77, e_225_78, e_225_79, e_225_82, e_225_84, Option.bind_some, Option.bind_none, m_kt, m_kn, Option.toList_some, Option.toList_none, List.nil_append, List.cons_append, List.append_nil, ltn, ite_not, ↓reduceIte, true_or, or_true, nP1, oI_s, oI_n, bI_f, bI_t, i1_0, i0_0, Bool.false_eq_true, not_true_eq_false, not_false_eq_true, n0le (show p < 2 ^ 31 by omega), H.1, hx]
    cases e : (nxR W l (fun q => !crk W q && !bt got q) p 1000).1 with
    | none =>
      simp only [e_225_0, e_225_1, e_225_2, e_225_3, e_225_6, e_225_7, e_225_8, e_225_9, e_225_12, e_225_13, e_225_14, e_225_15, e_225_16, e_225_19, e_225_22, e_225_23, e_225_26, e_225_27, e_225_28, e_225_29, e_225_31, e_225_32, e_225_36, e_225_39, e_225_40, e_225_42, e_225_43, e_225_45, e_225_48, e_225_50, e_225_52, e_225_55, e_225_58, e_225_60, e_225_61, e_225_63, e_225_64, e_225_65, e_225_67, e_225_68, e_225_69, e_225_70, e_225_72, e_225_73, e_225_76, e_225_77, e_225_78, e_225_79, e_225_82, e_225_84, Option.bind_some, Option.bind_none, m_kt, m_kn, Option.toList_some, Option.toList_none, List.nil_append, List.cons_append, List.append_nil, ltn, ite_not, ↓reduceIte, true_or, or_true, nP1, oI_s, oI_n, bI_f, bI_t, i1_0, i0_0, Bool.false_eq_true, not_true_eq_false, not_false_eq_true, m1_0]
      rw [e_225_34]
      simp only [e_225_0, e_225_1, e_225_2, e_225_3, e_225_6, e_225_7, e_225_8, e_225_9, e_225_12, e_225_13, e_225_14, e_225_15, e_225_16, e_225_19, e_225_22, e_225_23, e_225_26, e_225_27, e_225_28, e_225_29, e_225_31, e_225_32, e_225_36, e_225_39, e_225_40, e_225_42, e_225_43, e_225_45, e_225_48, e_225_50, e_225_52, e_225_55, e_225_58, e_225_60, e_225_61, e_225_63, e_225_64, e_225_65, e_225_67, e_225_68, e_225_69, e_225_70, e_225_72, e_225_73, e_225_76, e_225_77, e_225_78, e_225_79, e_225_82, e_225_84, Option.bind_some, Option.bind_none, m_kt, m_kn, Option.toList_some, Option.toList_none, List.nil_append, List.cons_append, List.append_nil, ltn, ite_not, ↓reduceIte, true_or, or_true, nP1, oI_s, oI_n, bI_f, bI_t, i1_0, i0_0, Bool.false_eq_true, not_true_eq_false, not_false_eq_true, m1_0]
      rfl
    | some q =>
      obtain ⟨hq, wq, tq⟩ := hI.2 q e
      have := fb_ct_zero.mp (Nat.le_zero.mp hn) q hq
      rw [this] at wq
      simp at wq
  | succ n ih =>
    intro l p got hn hp hl
    have hx := runsTo_ev O d H R 1000 hp hl got
    have hI := nxR_I R (l := l) (wh := fun q => !crk W q && !bt got q) hp (show 1000 ≤ 1000 by omega)
    rw [e_225_34]
    simp only [e_225_0, e_225_1, e_225_2, e_225_3, e_225_6, e_225_7, e_225_8, e_225_9, e_225_12, e_225_13, e_225_14, e_225_15, e_225_16, e_225_19, e_225_22, e_225_23, e_225_26, e_225_27, e_225_28, e_225_29, e_225_31, e_225_32, e_225_36, e_225_39, e_225_40, e_225_42, e_225_43, e_225_45, e_225_48, e_225_50, e_225_52, e_225_55, e_225_58, e_225_60, e_225_61, e_225_63, e_225_64, e_225_65, e_225_67, e_225_68, e_225_69, e_225_70, e_225_72, e_225_73, e_225_76, e_225_77, e_225_78, e_225_79, e_225_82, e_225_84, Option.bind_some, Option.bind_none, m_kt, m_kn, Option.toList_some, Option.toList_none, List.nil_append, List.cons_append, List.append_nil, ltn, ite_not, ↓reduceIte, true_or, or_true, nP1, oI_s, oI_n, bI_f, bI_t, i1_0, i0_0, Bool.false_eq_true, not_true_eq_false, not_false_eq_true, n0le (show p < 2 ^ 31 by omega), H.1, hx]
    cases e : (nxR W l (fun q => !crk W q && !bt got q) p 1000).1 with
    | none =>
      rw [goS_n e]
      simp only [e_225_0, e_225_1, e_225_2, e_225_3, e_225_6, e_225_7, e_225_8, e_225_9, e_225_12, e_225_13, e_225_14, e_225_15, e_225_16, e_225_19, e_225_22, e_225_23, e_225_26, e_225_27, e_225_28, e_225_29, e_225_31, e_225_32, e_225_36, e_225_39, e_225_40, e_225_42, e_225_43, e_225_45, e_225_48, e_225_50, e_225_52, e_225_55, e_225_58, e_225_60, e_225_61, e_225_63, e_225_64, e_225_65, e_225_67, e_225_68, e_225_69, e_225_70, e_225_72, e_225_73, e_225_76, e_225_77, e_225_78, e_225_79, e_225_82, e_225_84, Option.bind_some, Option.bind_none, m_kt, m_kn, Option.toList_some, Option.toList_none, List.nil_append, List.cons_append, List.append_nil, ltn, ite_not, ↓reduceIte, true_or, or_true, nP1, oI_s, oI_n, bI_f, bI_t, i1_0, i0_0, Bool.false_eq_true, not_true_eq_false, not_false_eq_true, m1_0]
      rw [e_225_34]
      simp only [e_225_0, e_225_1, e_225_2, e_225_3, e_225_6, e_225_7, e_225_8, e_225_9, e_225_12, e_225_13, e_225_14, e_225_15, e_225_16, e_225_19, e_225_22, e_225_23, e_225_26, e_225_27, e_225_28, e_225_29, e_225_31, e_225_32, e_225_36, e_225_39, e_225_40, e_225_42, e_225_43, e_225_45, e_225_48, e_225_50, e_225_52, e_225_55, e_225_58, e_225_60, e_225_61, e_225_63, e_225_64, e_225_65, e_225_67, e_225_68, e_225_69, e_225_70, e_225_72, e_225_73, e_225_76, e_225_77, e_225_78, e_225_79, e_225_82, e_225_84, Option.bind_some, Option.bind_none, m_kt, m_kn, Option.toList_some, Option.toList_none, List.nil_append, List.cons_append, List.append_nil, ltn, ite_not, ↓reduceIte, true_or, or_true, nP1, oI_s, oI_n, bI_f, bI_t, i1_0, i0_0, Bool.false_eq_true, not_true_eq_false, not_false_eq_true, m1_0]
    | some q =>
      obtain ⟨hq, wq, tq⟩ := hI.2 q e
      obtain ⟨te, t1, t9⟩ := tNe R (show q < 30 by omega)
      have hm : nI l - 5 * nI (tN W q) = nI (l - 5 * tN W q) := by rw [n5, pk_sub (by omega)]
      rw [goS_s e]
      simp only [e_225_0, e_225_1, e_225_2, e_225_3, e_225_6, e_225_7, e_225_8, e_225_9, e_225_12, e_225_13, e_225_14, e_225_15, e_225_16, e_225_19, e_225_22, e_225_23, e_225_26, e_225_27, e_225_28, e_225_29, e_225_31, e_225_32, e_225_36, e_225_39, e_225_40, e_225_42, e_225_43, e_225_45, e_225_48, e_225_50, e_225_52, e_225_55, e_225_58, e_225_60, e_225_61, e_225_63, e_225_64, e_225_65, e_225_67, e_225_68, e_225_69, e_225_70, e_225_72, e_225_73, e_225_76, e_225_77, e_225_78, e_225_79, e_225_82, e_225_84, Option.bind_some, Option.bind_none, m_kt, m_kn, Option.toList_some, Option.toList_none, List.nil_append, List.cons_append, List.append_nil, ltn, ite_not, ↓reduceIte, true_or, or_true, nP1, oI_s, oI_n, bI_f, bI_t, i1_0, i0_0, Bool.false_eq_true, not_true_eq_false, not_false_eq_true, n0le (show q < 2 ^ 31 by omega), H.1, of0_ev O (d + 2) H (show q < 30 by omega), te, hm, shl_nI]
      rw [ih (l - 5 * tN W q) q (got ||| shl1 q) ?_ hq (by omega)]
      · rw [goS_1 W n _ _ _ 1000]
      · have u := fb_ct_upd (fun r => !bt got r) false hq
        have c : fb_ct (fun r => !bt (got ||| shl1 q) r) (pN W) = fb_ct (fun k => if k = q then false else !bt got k) (pN W) := fb_ct_cong (fun k hk => by
          rw [b_or, bt_shl1 (by omega) (by omega)]
          by_cases z : k = q
          · subst z; simp
          · simp [z])
        rw [c]
        simp only [Bool.and_eq_true] at wq
        rw [wq.2] at u
        simp only [↓reduceIte, Bool.false_eq_true] at u
        omega
theorem gets_ev (O : mO) (d : Nat) (H : MW h W) (R : rng W) {p f : Nat} (hp : p < pN W) (hf : f < 2 ^ 20) :
    ev O (d + 3) 225 0 [.ref 66, .int (nI p), .int (nI f), mJ, mJ, mJ] [] h = some (.inl (some (.int ((stS W p f).1))), h) := by
  have hN := pN_le R
  have hp3 : p < 30 := by omega
  obtain ⟨be, bl⟩ := beaN_e R hp3
  unfold stS
  simp only [e_225_0, e_225_1, e_225_2, e_225_3, e_225_6, e_225_7, e_225_8, e_225_9, e_225_12, e_225_13, e_225_14, e_225_15, e_225_16, e_225_19, e_225_22, e_225_23, e_225_26, e_225_27, e_225_28, e_225_29, e_225_31, e_225_32, e_225_36, e_225_39, e_225_40, e_225_42, e_225_43, e_225_45, e_225_48, e_225_50, e_225_52, e_225_55, e_225_58, e_225_60, e_225_61, e_225_63, e_225_64, e_225_65, e_225_67, e_225_68, e_225_69, e_225_70, e_225_72, e_225_73, e_225_76, e_225_77, e_225_78, e_225_79, e_225_82, e_225_84, Option.bind_some, Option.bind_none, m_kt, m_kn, Option.toList_some, Option.toList_none, List.nil_append, List.cons_append, List.append_nil, ltn, ite_not, ↓reduceIte, true_or, or_true, nP1, oI_s, oI_n, bI_f, bI_t, i1_0, i0_0, Bool.false_eq_true, not_true_eq_false, not_false_eq_true, H.1, mbears_ev O d H hp3, be, sub_le0 (show f < 2 ^ 30 by omega) (show beaN W p < 2 ^ 30 by omega)]
  by_cases c : f ≤ beaN W p
  · simp only [c, ↓reduceIte]
  · simp only [c, ↓reduceIte, pk_sub (Nat.le_of_not_le c)]
    have main := fun set => gets_loop O d H R (nI p) (nI f) 30 (f - beaN W p) p set (Nat.le_trans (fb_ct_le _ _) hN) hp (by omega)
    cases hbr : brk W p
    · simp only [e_225_0, e_225_1, e_225_2, e_225_3, e_225_6, e_225_7, e_225_8, e_225_9, e_225_12, e_225_13, e_225_14, e_225_15, e_225_16, e_225_19, e_225_22, e_225_23, e_225_26, e_225_27, e_225_28, e_225_29, e_225_31, e_225_32, e_225_36, e_225_39, e_225_40, e_225_42, e_225_43, e_225_45, e_225_48, e_225_50, e_225_52, e_225_55, e_225_58, e_225_60, e_225_61, e_225_63, e_225_64, e_225_65, e_225_67, e_225_68, e_225_69, e_225_70, e_225_72, e_225_73, e_225_76, e_225_77, e_225_78, e_225_79, e_225_82, e_225_84, Option.bind_some, Option.bind_none, m_kt, m_kn, Option.toList_some, Option.toList_none, List.nil_append, List.cons_append, List.append_nil, ltn, ite_not, ↓reduceIte, true_or, or_true, nP1, oI_s, oI_n, bI_f, bI_t, i1_0, i0_0, Bool.false_eq_true, not_true_eq_false, not_false_eq_true, H.1, isBr_ev O (d + 1) H hp3, shl_nI, hbr]
      exact main _
    · simp only [e_225_0, e_225_1, e_225_2, e_225_3, e_225_6, e_225_7, e_225_8, e_225_9, e_225_12, e_225_13, e_225_14, e_225_15, e_225_16, e_225_19, e_225_22, e_225_23, e_225_26, e_225_27, e_225_28, e_225_29, e_225_31, e_225_32, e_225_36, e_225_39, e_225_40, e_225_42, e_225_43, e_225_45, e_225_48, e_225_50, e_225_52, e_225_55, e_225_58, e_225_60, e_225_61, e_225_63, e_225_64, e_225_65, e_225_67, e_225_68, e_225_69, e_225_70, e_225_72, e_225_73, e_225_76, e_225_77, e_225_78, e_225_79, e_225_82, e_225_84, Option.bind_some, Option.bind_none, m_kt, m_kn, Option.toList_some, Option.toList_none, List.nil_append, List.cons_append, List.append_nil, ltn, ite_not, ↓reduceIte, true_or, or_true, nP1, oI_s, oI_n, bI_f, bI_t, i1_0, i0_0, Bool.false_eq_true, not_true_eq_false, not_false_eq_true, H.1, isBr_ev O (d + 1) H hp3, shl_nI, hbr]
      exact main _
end Gets
