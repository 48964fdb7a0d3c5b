/-! Which blows do just that: steps of slack -/
theorem nxS_le (W : WD) (l : Nat) (wh : Nat → Bool) (p k : Nat) (s : Option Nat × Nat) : (nxS W l wh p k s).2 ≤ s.2 := by
  unfold nxS
  cases bes (wN W) (gN W) p k with
  | none => exact Nat.le_refl _
  | some q =>
    simp only [Option.elim_some, nxQ]
    split
    · split
      · exact Nat.le_refl _
      · split
        · exact Nat.min_le_left _ _
        · split <;> exact Nat.le_refl _
    · exact Nat.le_refl _
theorem nxS_pos (W : WD) (l : Nat) (wh : Nat → Bool) (p k : Nat) (s : Option Nat × Nat) (h : 1 ≤ s.2) : 1 ≤ (nxS W l wh p k s).2 := by
  unfold nxS
  cases bes (wN W) (gN W) p k with
  | none => exact h
  | some q =>
    simp only [Option.elim_some, nxQ]
    split
    · split
      · exact h
      · split
        · simp only; omega
        · split <;> exact h
    · exact h
theorem nxS_sl (W : WD) (l : Nat) (wh : Nat → Bool) (p k e : Nat) (bo : Option Nat) (s s' : Nat) (h : e < (nxS W l wh p k (bo, s)).2) : (nxS W (l + e) wh p k (bo, s')).1 = (nxS W l wh p k (bo, s)).1 := by
  unfold nxS at *
  cases hb : bes (wN W) (gN W) p k with
  | none => rfl
  | some q =>
    rw [hb] at h
    simp only [Option.elim_some, nxQ] at h ⊢
    by_cases c1 : wh q = true
    · by_cases c2 : ofN W q p < rN W
      · simp only [c1, c2, ↓reduceIte]
      · by_cases c3 : l ≤ 5 * tN W q
        · simp only [c1, c2, c3, ↓reduceIte] at h ⊢
          have c4 : l + e ≤ 5 * tN W q := by omega
          simp only [c4, ↓reduceIte]
        · have c4 : ¬ l + e ≤ 5 * tN W q := by omega
          simp only [c1, c2, c3, c4, ↓reduceIte]
          split <;> rfl
    · simp only [c1, ↓reduceIte, Bool.false_eq_true]
theorem lpnx_sl (W : WD) (l : Nat) (wh : Nat → Bool) (p e : Nat) (s s' : Nat) : ∀ n, e < (lp (nxS W l wh p) n (none, s)).2 → (lp (nxS W (l + e) wh p) n (none, s')).1 = (lp (nxS W l wh p) n (none, s)).1
  | 0, _ => rfl
  | n + 1, h => by
    rw [lp_s] at h
    have h1 := Nat.lt_of_lt_of_le h (nxS_le _ _ _ _ _ _)
    have ih := lpnx_sl W l wh p e s s' n h1
    rw [lp_s, lp_s]
    have k := nxS_sl W l wh p n e (lp (nxS W l wh p) n (none, s)).1 (lp (nxS W l wh p) n (none, s)).2 (lp (nxS W (l + e) wh p) n (none, s')).2 h
    have k2 : (nxS W (l + e) wh p n ((lp (nxS W (l + e) wh p) n (none, s')).1, (lp (nxS W (l + e) wh p) n (none, s')).2)).1 = (nxS W l wh p n ((lp (nxS W l wh p) n (none, s)).1, (lp (nxS W l wh p) n (none, s)).2)).1 := by rw [← k, ih]
    exact k2
theorem nxR_le (W : WD) (l : Nat) (wh : Nat → Bool) (p sl : Nat) : (nxR W l wh p sl).2 ≤ sl := lp_I (fun _ (s : Option Nat × Nat) => s.2 ≤ sl) (Nat.le_refl _) (fun i s _ I => Nat.le_trans (nxS_le W l wh p i s) I)
theorem nxR_pos (W : WD) (l : Nat) (wh : Nat → Bool) (p sl : Nat) (h : 1 ≤ sl) : 1 ≤ (nxR W l wh p sl).2 := lp_I (fun _ (s : Option Nat × Nat) => 1 ≤ s.2) h (fun i s _ I => nxS_pos W l wh p i s I)
theorem goS_le (W : WD) : ∀ (n l p : Nat) (set : Int32) (sl : Nat), (goS W n l p set sl).2 ≤ sl
  | 0, _, _, _, _ => Nat.le_refl _
  | n + 1, l, p, set, sl => by
    have a := nxR_le W l (fun q => !crk W q && !bt set q) p sl
    cases e : (nxR W l (fun q => !crk W q && !bt set q) p sl).1 with
    | none => rw [goS_n e]; exact a
    | some q => rw [goS_s e]; exact Nat.le_trans (goS_le W n _ _ _ _) a
theorem goS_pos (W : WD) : ∀ (n l p : Nat) (set : Int32) (sl : Nat), 1 ≤ sl → 1 ≤ (goS W n l p set sl).2
  | 0, _, _, _, _, h => h
  | n + 1, l, p, set, sl, h => by
    have a := nxR_pos W l (fun q => !crk W q && !bt set q) p sl h
    cases e : (nxR W l (fun q => !crk W q && !bt set q) p sl).1 with
    | none => rw [goS_n e]; exact a
    | some q => rw [goS_s e]; exact goS_pos W n _ _ _ _ a
theorem goS_sup {W : WD} (R : rng W) {i : Nat} : ∀ (n l p : Nat) (set : Int32) (sl : Nat), bt set i = true → bt (goS W n l p set sl).1 i = true
  | 0, _, _, _, _, h => h
  | n + 1, l, p, set, sl, h => by
    cases e : (nxR W l (fun q => !crk W q && !bt set q) p sl).1 with
    | none => rw [goS_n e]; exact h
    | some q => rw [goS_s e]; exact goS_sup R n _ _ _ _ (by rw [b_or, h]; rfl)
theorem goS_sl {W : WD} (R : rng W) : ∀ (n l p e : Nat) (set : Int32) (sl sl' : Nat), p < pN W → sl ≤ 1000 → e < (goS W n l p set sl).2 → (goS W n (l + e) p set sl').1 = (goS W n l p set sl).1
  | 0, _, _, _, _, _, _, _, _, _ => rfl
  | n + 1, l, p, e, set, sl, sl', hp, hs, h => by
    have I := nxR_I R (l := l) (wh := fun q => !crk W q && !bt set q) hp hs
    cases e1 : (nxR W l (fun q => !crk W q && !bt set q) p sl).1 with
    | none =>
      rw [goS_n e1] at h
      have k := lpnx_sl W l (fun q => !crk W q && !bt set q) p e sl sl' 4 h
      have k : (nxR W (l + e) (fun q => !crk W q && !bt set q) p sl').1 = none := k.trans e1
      rw [goS_n e1, goS_n k]
    | some q =>
      obtain ⟨hq, -, tq⟩ := I.2 q e1
      rw [goS_s e1] at h
      have h1 := Nat.lt_of_lt_of_le h (goS_le W n _ _ _ _)
      have k := lpnx_sl W l (fun q => !crk W q && !bt set q) p e sl sl' 4 h1
      have k : (nxR W (l + e) (fun q => !crk W q && !bt set q) p sl').1 = some q := k.trans e1
      rw [goS_s e1, goS_s k, show l + e - 5 * tN W q = (l - 5 * tN W q) + e by omega]
      exact goS_sl R n _ _ _ _ _ _ hq I.1 h
theorem stS_0 {W : WD} {p f : Nat} (h : f ≤ beaN W p) : (stS W p f).1 = 0 := by unfold stS; rw [if_pos h]
theorem stS_rng {W : WD} (p f : Nat) : 1 ≤ (stS W p f).2 ∧ (stS W p f).2 ≤ 1000 := by
  unfold stS
  split
  · exact ⟨by simp, by simp⟩
  · exact ⟨goS_pos W _ _ _ _ _ (by omega), goS_le W _ _ _ _ _⟩
theorem stS_p {W : WD} {p f : Nat} (hf : beaN W p < f) : stS W p f = goS W 30 (f - beaN W p) p (if brk W p = true then 0 else shl1 p) 1000 := if_neg (Nat.not_le.mpr hf)
theorem stS_sl {W : WD} (R : rng W) {p f e : Nat} (hp : p < pN W) (hf : beaN W p < f) (h : e < (stS W p f).2) : (stS W p (f + e)).1 = (stS W p f).1 := by
  rw [stS_p hf] at h
  rw [stS_p hf, stS_p (show beaN W p < f + e by omega), show f + e - beaN W p = (f - beaN W p) + e by omega]
  exact goS_sl R _ _ _ _ _ _ _ hp (by omega) h
theorem stS_bit {W : WD} (R : rng W) {p f : Nat} (hp : p < pN W) (hf : beaN W p < f) (hb : brk W p = false) : bt (stS W p f).1 p = true := by
  have hN := pN_le R
  rw [stS_p hf, hb]
  refine goS_sup R _ _ _ _ _ ?_
  simp only [Bool.false_eq_true, ↓reduceIte]
  rw [bt_shl1 (by omega) (by omega)]
  simp
/-- does the blow f = i + 1 do just that -/
def trC (W : WD) (its : Int32) (p i : Nat) : Bool := decide ((stS W p (i + 1)).1 = its)
def trN (W : WD) (its : Int32) (most : Nat) : Nat → Nat → Nat := fun p s => s + fb_ct (trC W its p) most
def trP (W : WD) (its : Int32) (most p : Nat) : Option Nat := fd (trC W its p) most
def trF (W : WD) (its : Int32) (most : Nat) : Int32 := (fd (fun p => (trP W its most p).isSome) (pN W)).elim (-1) (fun p => nI (1000 * p + ((trP W its most p).getD 0 + 1)))
def trA (W : WD) (its : Int32) (most : Nat) : Int32 := nI (lp (trN W its most) (pN W) 0)
theorem fd_eq {c : Nat → Bool} {n j : Nat} (hj : j < n) (hc : c j = true) (h : ∀ i, i < j → c i = false) : fd c n = some j := by
  cases e : fd c n with
  | none => rw [fd_none e j hj] at hc; cases hc
  | some i =>
    obtain ⟨a, b, q⟩ := fd_some e
    rcases Nat.lt_trichotomy i j with z | z | z
    · rw [h i z] at b; cases b
    · rw [z]
    · rw [q j z] at hc; cases hc
theorem fd_eqn {c : Nat → Bool} {n : Nat} (h : ∀ i, i < n → c i = false) : fd c n = none := by
  cases e : fd c n with
  | none => rfl
  | some i => obtain ⟨a, b, q⟩ := fd_some e; rw [h i a] at b; cases b
theorem fd_runE {ρ ν : Type} {F : Nat → ν → ρ} {c : Nat → Bool} {n : Nat} {E : Nat → ρ → Prop} (h : ∀ i v, i < n → (c i = true → E i (F i v)) ∧ (c i = false → ∃ v', F i v = F (i + 1) v')) (v : ν) : (∃ i, fd c n = some i ∧ E i (F 0 v)) ∨ (fd c n = none ∧ ∃ v', F 0 v = F n v') := by
  induction n with
  | zero => exact .inr ⟨rfl, v, rfl⟩
  | succ n ih =>
    have e2 : fd c (n + 1) = match fd c n with
      | some i => some i
      | none => if c n = true then some n else none := rfl
    rw [e2]
    rcases ih (fun i v hi => h i v (by omega)) with ⟨i, e, q⟩ | ⟨e, v1, q⟩
    · exact .inl ⟨i, by rw [e], q⟩
    · rw [e]
      obtain ⟨a, b⟩ := h n v1 (by omega)
      cases hc : c n with
      | true => exact .inl ⟨n, by simp, by rw [q]; exact a hc⟩
      | false =>
        obtain ⟨v2, z⟩ := b hc
        exact .inr ⟨by simp, v2, q.trans z⟩
theorem KA_hk {h : mH} (K : KA h) : ∃ k, h = hk h k := by
  obtain ⟨s, e⟩ := K
  refine ⟨s.toBitVec.toNat, ?_⟩
  have : nI s.toBitVec.toNat = s := by
    apply Int32.toBitVec_inj.mp
    apply BitVec.eq_of_toNat_eq
    exact Nat.mod_eq_of_lt s.toBitVec.isLt
  unfold hk
  rw [this, hset e]
theorem lpN_le {W : WD} {its : Int32} {most n : Nat} : lp (trN W its most) n 0 ≤ n * most := by
  induction n with
  | zero => exact Nat.zero_le _
  | succ n ih =>
    rw [lp_s, trN, Nat.succ_mul]
    have := fb_ct_le (trC W its n) most
    omega
theorem lp_fbct (c : Nat → Bool) (n0 : Nat) : ∀ k, lp (fun i n => n + if c i = true then 1 else 0) k n0 = n0 + fb_ct c k
  | 0 => rfl
  | k + 1 => by rw [lp_s, lp_fbct c n0 k, fb_ct_succ, Nat.add_assoc]
section Trace
variable {h : mH} {a : Nat} {W : WD}
theorem cannotGive_ev (O : mO) (d : Nat) (H : CA h a W) (R : rng W) {p : Nat} (hp : p < 30) (set : Int32) :
    ev O (d) 28 0 [.ref a, .int (nI p), .int set] [] h = some (.inl (some (.int (bI (!brk W p && !bt set p)))), h) := by
  simp only [e_28_0, e_28_1, e_28_4, e_28_5, e_28_6, e_28_7, e_28_10, e_28_11, e_28_12, e_28_13, e_28_14, e_28_15, e_28_18, e_28_19, e_28_22, e_28_23, Option.bind_some, Option.bind_none, m_kt, m_kn, Option.toList_some, Option.toList_none, List.nil_append, List.cons_append, List.append_nil, ltn, ite_not, ↓reduceIte, true_or, or_true, nP1, oI_s, oI_n, bI_f, bI_t, i1_0, i0_0, Bool.false_eq_true, not_true_eq_false, not_false_eq_true, gC9 H, H.t3 hp, brk_le R hp, has_t set (show p < 32 by omega), z01, o01]
  cases brk W p
  · cases bt set p <;> simp [bI]
  · simp [bI]
theorem cb_loop (O : mO) (d : Nat) (H : CA h a W) (ha : a < 28) (K : KA h) (R : rng W) {p most : Nat} (its bo : Int32) (hp : p < pN W) (hm : most ≤ 300) : ∀ (k j sum sl : Nat), most - j ≤ k → (beaN W p ≤ j ∨ most ≤ j) → j ≤ 2000 → ∃ sl' v, ev O (d + 3) 26 57 [.ref 55, .ref a, .int its, .int (nI most), .int (nI sum), .int (nI p), .int bo, .int (nI (j + 1))] [] (hk h sl) = ev O (d + 3) 26 110 [.ref 55, .ref a, .int its, .int (nI most), .int (nI (sum + fb_ct (fun i => trC W its p (j + i)) (most - j))), .int (nI p), .int bo, v] [] (hk h sl') := by
  have hN := pN_le R
  intro k
  induction k with
  | zero =>
    intro j sum sl hk0 hb hj
    have h1 : ¬ nI (j + 1) ≤ nI most := nI_ge (by omega) (by omega)
    rw [show most - j = 0 by omega, e_26_57]
    simp only [e_26_0, e_26_1, e_26_3, e_26_4, e_26_6, e_26_8, e_26_9, e_26_12, e_26_15, e_26_16, e_26_18, e_26_21, e_26_22, e_26_25, e_26_27, e_26_28, e_26_31, e_26_33, e_26_35, e_26_36, e_26_38, e_26_39, e_26_41, e_26_42, e_26_45, e_26_48, e_26_51, e_26_53, e_26_54, e_26_55, e_26_59, e_26_60, e_26_63, e_26_64, e_26_65, e_26_67, e_26_69, e_26_72, e_26_73, e_26_76, e_26_78, e_26_79, e_26_82, e_26_83, e_26_85, e_26_86, e_26_87, e_26_88, e_26_91, e_26_92, e_26_94, e_26_96, e_26_97, e_26_100, e_26_101, e_26_104, e_26_105, e_26_107, e_26_113, e_26_116, e_26_118, Option.bind_some, Option.bind_none, m_kt, m_kn, Option.toList_some, Option.toList_none, List.nil_append, List.cons_append, List.append_nil, ltn, ite_not, ↓reduceIte, true_or, or_true, nP1, oI_s, oI_n, bI_f, bI_t, i1_0, i0_0, Bool.false_eq_true, not_true_eq_false, not_false_eq_true, h1]
    exact ⟨_, _, rfl⟩
  | succ k ih =>
    intro j sum sl hk0 hb hj
    by_cases c : most ≤ j
    · have h1 : ¬ nI (j + 1) ≤ nI most := nI_ge (by omega) (by omega)
      rw [show most - j = 0 by omega, e_26_57]
      simp only [e_26_0, e_26_1, e_26_3, e_26_4, e_26_6, e_26_8, e_26_9, e_26_12, e_26_15, e_26_16, e_26_18, e_26_21, e_26_22, e_26_25, e_26_27, e_26_28, e_26_31, e_26_33, e_26_35, e_26_36, e_26_38, e_26_39, e_26_41, e_26_42, e_26_45, e_26_48, e_26_51, e_26_53, e_26_54, e_26_55, e_26_59, e_26_60, e_26_63, e_26_64, e_26_65, e_26_67, e_26_69, e_26_72, e_26_73, e_26_76, e_26_78, e_26_79, e_26_82, e_26_83, e_26_85, e_26_86, e_26_87, e_26_88, e_26_91, e_26_92, e_26_94, e_26_96, e_26_97, e_26_100, e_26_101, e_26_104, e_26_105, e_26_107, e_26_113, e_26_116, e_26_118, Option.bind_some, Option.bind_none, m_kt, m_kn, Option.toList_some, Option.toList_none, List.nil_append, List.cons_append, List.append_nil, ltn, ite_not, ↓reduceIte, true_or, or_true, nP1, oI_s, oI_n, bI_f, bI_t, i1_0, i0_0, Bool.false_eq_true, not_true_eq_false, not_false_eq_true, h1]
      exact ⟨_, _, rfl⟩
    · have h1 : nI (j + 1) ≤ nI most := nI_le (by omega) (by omega)
      have hst := strike_ev O d (H.hk ha sl) ha (hk_KA K sl) R hp (show j + 1 < 2 ^ 20 by omega)
      obtain ⟨s1, s2⟩ := stS_rng (W := W) p (j + 1)
      have key : ∀ i, i < (stS W p (j + 1)).2 → trC W its p (j + i) = trC W its p j := fun i hi => by
        unfold trC
        rw [show j + i + 1 = j + 1 + i by omega, stS_sl R hp (by omega) hi]
      have hmx : (if nI (stS W p (j + 1)).2 < 1 then 1 else nI (stS W p (j + 1)).2) = nI (stS W p (j + 1)).2 := if_neg (nI_nlt (b := 1) s1 (by omega))
      have hmx' : (if 1 ≤ nI (stS W p (j + 1)).2 then nI (stS W p (j + 1)).2 else 1) = nI (stS W p (j + 1)).2 := if_pos (nI_le (a := 1) s1 (by omega))
      have hmn : (if nI (most - (j + 1) + 1) < nI (stS W p (j + 1)).2 then nI (most - (j + 1) + 1) else nI (stS W p (j + 1)).2) = nI (min (stS W p (j + 1)).2 (most - j)) := by
        by_cases z : most - (j + 1) + 1 < (stS W p (j + 1)).2
        · rw [if_pos (nI_lt z (by omega)), Nat.min_eq_right (by omega)]; congr 1; omega
        · rw [if_neg (nI_nlt (by omega) (by omega)), Nat.min_eq_left (by omega)]
      have hmn' : (if nI (stS W p (j + 1)).2 ≤ nI (most - (j + 1) + 1) then nI (stS W p (j + 1)).2 else nI (most - (j + 1) + 1)) = nI (min (stS W p (j + 1)).2 (most - j)) := by rw [← hmn]; simp only [ltn, ite_not]
      have hspl : fb_ct (fun i => trC W its p (j + i)) (most - j) = (if trC W its p j = true then min (stS W p (j + 1)).2 (most - j) else 0) + fb_ct (fun i => trC W its p (j + (stS W p (j + 1)).2 + i)) (most - (j + (stS W p (j + 1)).2)) := by
        by_cases z : (stS W p (j + 1)).2 ≤ most - j
        · have e : most - j = (stS W p (j + 1)).2 + (most - (j + (stS W p (j + 1)).2)) := by omega
          rw [Nat.min_eq_left z]
          conv => lhs; rw [e]
          rw [fb_ct_split]
          congr 1
          · rw [fb_ct_cong key]
            split
            · rename_i hc; exact fb_ct_all.mpr (fun _ _ => hc)
            · rename_i hc; exact fb_ct_zero.mpr (fun _ _ => by simpa using hc)
          · exact fb_ct_cong (fun i _ => by simp only [Nat.add_assoc])
        · rw [Nat.min_eq_right (by omega), show most - (j + (stS W p (j + 1)).2) = 0 by omega]
          rw [fb_ct_cong (fun i hi => key i (by omega))]
          split
          · rename_i hc; exact fb_ct_all.mpr (fun _ _ => hc)
          · rename_i hc; exact fb_ct_zero.mpr (fun _ _ => by simpa using hc)
      rw [hspl]
      have hd : ((stS W p (j + 1)).1 = its) = (trC W its p j = true) := by unfold trC; rw [decide_eq_true_eq]
      rw [e_26_57]
      cases hc : trC W its p j
      · simp only [e_26_0, e_26_1, e_26_3, e_26_4, e_26_6, e_26_8, e_26_9, e_26_12, e_26_15, e_26_16, e_26_18, e_26_21, e_26_22, e_26_25, e_26_27, e_26_28, e_26_31, e_26_33, e_26_35, e_26_36, e_26_38, e_26_39, e_26_41, e_26_42, e_26_45, e_26_48, e_26_51, e_26_53, e_26_54, e_26_55, e_26_59, e_26_60, e_26_63, e_26_64, e_26_65, e_26_67, e_26_69, e_26_72, e_26_73, e_26_76, e_26_78, e_26_79, e_26_82, e_26_83, e_26_85, e_26_86, e_26_87, e_26_88, e_26_91, e_26_92, e_26_94, e_26_96, e_26_97, e_26_100, e_26_101, e_26_104, e_26_105, e_26_107, e_26_113, e_26_116, e_26_118, Option.bind_some, Option.bind_none, m_kt, m_kn, Option.toList_some, Option.toList_none, List.nil_append, List.cons_append, List.append_nil, ltn, ite_not, ↓reduceIte, true_or, or_true, nP1, oI_s, oI_n, bI_f, bI_t, i1_0, i0_0, Bool.false_eq_true, not_true_eq_false, not_false_eq_true, h1, hk_isc K, hst, hk_hk, hd, hc, hk_g K, hmx', nA, Nat.zero_add]
        have := ih (j + (stS W p (j + 1)).2) sum (stS W p (j + 1)).2 (by omega) (by omega) (by omega)
        rw [show j + (stS W p (j + 1)).2 + 1 = j + 1 + (stS W p (j + 1)).2 by omega] at this
        exact this
      · simp only [e_26_0, e_26_1, e_26_3, e_26_4, e_26_6, e_26_8, e_26_9, e_26_12, e_26_15, e_26_16, e_26_18, e_26_21, e_26_22, e_26_25, e_26_27, e_26_28, e_26_31, e_26_33, e_26_35, e_26_36, e_26_38, e_26_39, e_26_41, e_26_42, e_26_45, e_26_48, e_26_51, e_26_53, e_26_54, e_26_55, e_26_59, e_26_60, e_26_63, e_26_64, e_26_65, e_26_67, e_26_69, e_26_72, e_26_73, e_26_76, e_26_78, e_26_79, e_26_82, e_26_83, e_26_85, e_26_86, e_26_87, e_26_88, e_26_91, e_26_92, e_26_94, e_26_96, e_26_97, e_26_100, e_26_101, e_26_104, e_26_105, e_26_107, e_26_113, e_26_116, e_26_118, Option.bind_some, Option.bind_none, m_kt, m_kn, Option.toList_some, Option.toList_none, List.nil_append, List.cons_append, List.append_nil, ltn, ite_not, ↓reduceIte, true_or, or_true, nP1, oI_s, oI_n, bI_f, bI_t, i1_0, i0_0, Bool.false_eq_true, not_true_eq_false, not_false_eq_true, h1, hk_isc K, hst, hk_hk, hd, hc, hk_g K, hmx', nA, pk_sub (show j + 1 ≤ most by omega), hmn']
        have := ih (j + (stS W p (j + 1)).2) (sum + min (stS W p (j + 1)).2 (most - j)) (stS W p (j + 1)).2 (by omega) (by omega) (by omega)
        rw [show j + (stS W p (j + 1)).2 + 1 = j + 1 + (stS W p (j + 1)).2 by omega, Nat.add_assoc sum] at this
        exact this
theorem countBack_ev (O : mO) (d : Nat) (H : CA h a W) (ha : a < 28) (K : KA h) (R : rng W) {most : Nat} (its : Int32) (hm : most ≤ 300) : ∃ sl, ev O (d + 3) 26 0 [.ref 55, .ref a, .int its, .int (nI most), mJ, mJ, mJ, mJ] [] h = some (.inl (some (.int (trA W its most))), hk h sl) := by
  have hN := pN_le R
  obtain ⟨k0, hk0⟩ := KA_hk K
  have e := lp_runV (ν := Nat × Value × Value) (F := fun i s v => ev O (d + 3) 26 6 [.ref 55, .ref a, .int its, .int (nI most), .int (nI s), .int (nI i), v.2.1, v.2.2] [] (hk h v.1)) (f := trN W its most) (n := pN W) (fun i s v hi => by
    obtain ⟨sl, v1, v2⟩ := v
    have h1 : ¬ nI (pN W) ≤ nI i := nI_ge hi (by omega)
    have hi3 : i < 30 := by omega
    obtain ⟨be, bl⟩ := beaN_e R hi3
    have hmn : (if nI most < nI (beaN W i) then nI most else nI (beaN W i)) = nI (min (beaN W i) most) := by
      by_cases z : most < beaN W i
      · rw [if_pos (nI_lt z (by omega)), Nat.min_eq_right (by omega)]
      · rw [if_neg (nI_nlt (by omega) (by omega)), Nat.min_eq_left (by omega)]
    have hmn' : (if nI (beaN W i) ≤ nI most then nI (beaN W i) else nI most) = nI (min (beaN W i) most) := by rw [← hmn]; simp only [ltn, ite_not]
    have hz : fb_ct (trC W its i) (min (beaN W i) most) = if its = 0 then min (beaN W i) most else 0 := by
      have : ∀ j, j < min (beaN W i) most → trC W its i j = decide (its = 0) := fun j hj => by
        unfold trC
        rw [stS_0 (show j + 1 ≤ beaN W i by omega)]
        simp only [decide_eq_decide]
        exact ⟨fun e => e.symm, fun e => e.symm⟩
      rw [fb_ct_cong this]
      split
      · rename_i hc; exact fb_ct_all.mpr (fun _ _ => by simpa using hc)
      · rename_i hc; exact fb_ct_zero.mpr (fun _ _ => by simpa using hc)
    have hsp : fb_ct (trC W its i) most = fb_ct (trC W its i) (min (beaN W i) most) + fb_ct (fun j => trC W its i (min (beaN W i) most + j)) (most - min (beaN W i) most) := by
      rw [← fb_ct_split]; congr 1; omega
    have hcg : (!brk W i && !bt its i) = true → fb_ct (fun j => trC W its i (min (beaN W i) most + j)) (most - min (beaN W i) most) = 0 := fun hc => by
      simp only [Bool.and_eq_true, Bool.not_eq_true'] at hc
      refine fb_ct_zero.mpr (fun j hj => ?_)
      unfold trC
      have hb := stS_bit R hi (f := min (beaN W i) most + j + 1) (by omega) hc.1
      refine decide_eq_false (fun q => ?_)
      rw [q, hc.2] at hb
      cases hb
    show ∃ v', ev O (d + 3) 26 6 [.ref 55, .ref a, .int its, .int (nI most), .int (nI s), .int (nI i), v1, v2] [] (hk h sl) = _
    unfold trN
    rw [hsp, hz, e_26_6]
    have hcl := fun s2 => cb_loop O d H ha K R (p := i) (most := most) its (nI (min (beaN W i) most)) hi hm most (min (beaN W i) most) s2 sl (by omega) (by omega) (by omega)
    have H1 := H.hk ha sl
    by_cases c0 : its = 0
    · have c0' : (its = 0) = True := eq_true c0
      cases hc : (!brk W i && !bt its i)
      · simp only [e_26_0, e_26_1, e_26_3, e_26_4, e_26_8, e_26_9, e_26_12, e_26_15, e_26_16, e_26_18, e_26_21, e_26_22, e_26_25, e_26_27, e_26_28, e_26_31, e_26_33, e_26_35, e_26_36, e_26_38, e_26_39, e_26_41, e_26_42, e_26_45, e_26_48, e_26_51, e_26_53, e_26_54, e_26_55, e_26_59, e_26_60, e_26_63, e_26_64, e_26_65, e_26_67, e_26_69, e_26_72, e_26_73, e_26_76, e_26_78, e_26_79, e_26_82, e_26_83, e_26_85, e_26_86, e_26_87, e_26_88, e_26_91, e_26_92, e_26_94, e_26_96, e_26_97, e_26_100, e_26_101, e_26_104, e_26_105, e_26_107, e_26_113, e_26_116, e_26_118, Option.bind_some, Option.bind_none, m_kt, m_kn, Option.toList_some, Option.toList_none, List.nil_append, List.cons_append, List.append_nil, ltn, ite_not, ↓reduceIte, true_or, or_true, nP1, oI_s, oI_n, bI_f, bI_t, i1_0, i0_0, Bool.false_eq_true, not_true_eq_false, not_false_eq_true, gC2 H1, h1, H1.isc, bears_ev O (d + 1) H1 R hi3, be, hmn', c0', cannotGive_ev O (d + 2) H1 R hi3, hc, nA]
        obtain ⟨sl', v, e⟩ := hcl (s + min (beaN W i) most)
        rw [e, Nat.add_assoc]
        simp only [e_26_0, e_26_1, e_26_3, e_26_4, e_26_8, e_26_9, e_26_12, e_26_15, e_26_16, e_26_18, e_26_21, e_26_22, e_26_25, e_26_27, e_26_28, e_26_31, e_26_33, e_26_35, e_26_36, e_26_38, e_26_39, e_26_41, e_26_42, e_26_45, e_26_48, e_26_51, e_26_53, e_26_54, e_26_55, e_26_59, e_26_60, e_26_63, e_26_64, e_26_65, e_26_67, e_26_69, e_26_72, e_26_73, e_26_76, e_26_78, e_26_79, e_26_82, e_26_83, e_26_85, e_26_86, e_26_87, e_26_88, e_26_91, e_26_92, e_26_94, e_26_96, e_26_97, e_26_100, e_26_101, e_26_104, e_26_105, e_26_107, e_26_110, e_26_113, e_26_116, e_26_118, Option.bind_some, Option.bind_none, m_kt, m_kn, Option.toList_some, Option.toList_none, List.nil_append, List.cons_append, List.append_nil, ltn, ite_not, ↓reduceIte, true_or, or_true, nP1, oI_s, oI_n, bI_f, bI_t, i1_0, i0_0, Bool.false_eq_true, not_true_eq_false, not_false_eq_true]
        exact ⟨(_, _, _), rfl⟩
      · rw [hcg hc]
        simp only [e_26_0, e_26_1, e_26_3, e_26_4, e_26_8, e_26_9, e_26_12, e_26_15, e_26_16, e_26_18, e_26_21, e_26_22, e_26_25, e_26_27, e_26_28, e_26_31, e_26_33, e_26_35, e_26_36, e_26_38, e_26_39, e_26_41, e_26_42, e_26_45, e_26_48, e_26_51, e_26_53, e_26_54, e_26_55, e_26_59, e_26_60, e_26_63, e_26_64, e_26_65, e_26_67, e_26_69, e_26_72, e_26_73, e_26_76, e_26_78, e_26_79, e_26_82, e_26_83, e_26_85, e_26_86, e_26_87, e_26_88, e_26_91, e_26_92, e_26_94, e_26_96, e_26_97, e_26_100, e_26_101, e_26_104, e_26_105, e_26_107, e_26_110, e_26_113, e_26_116, e_26_118, Option.bind_some, Option.bind_none, m_kt, m_kn, Option.toList_some, Option.toList_none, List.nil_append, List.cons_append, List.append_nil, ltn, ite_not, ↓reduceIte, true_or, or_true, nP1, oI_s, oI_n, bI_f, bI_t, i1_0, i0_0, Bool.false_eq_true, not_true_eq_false, not_false_eq_true, gC2 H1, h1, H1.isc, bears_ev O (d + 1) H1 R hi3, be, hmn', c0', cannotGive_ev O (d + 2) H1 R hi3, hc, nA, Nat.add_zero]
        exact ⟨(_, _, _), rfl⟩
    · have c0' : (its = 0) = False := eq_false c0
      cases hc : (!brk W i && !bt its i)
      · simp only [e_26_0, e_26_1, e_26_3, e_26_4, e_26_8, e_26_9, e_26_12, e_26_15, e_26_16, e_26_18, e_26_21, e_26_22, e_26_25, e_26_27, e_26_28, e_26_31, e_26_33, e_26_35, e_26_36, e_26_38, e_26_39, e_26_41, e_26_42, e_26_45, e_26_48, e_26_51, e_26_53, e_26_54, e_26_55, e_26_59, e_26_60, e_26_63, e_26_64, e_26_65, e_26_67, e_26_69, e_26_72, e_26_73, e_26_76, e_26_78, e_26_79, e_26_82, e_26_83, e_26_85, e_26_86, e_26_87, e_26_88, e_26_91, e_26_92, e_26_94, e_26_96, e_26_97, e_26_100, e_26_101, e_26_104, e_26_105, e_26_107, e_26_113, e_26_116, e_26_118, Option.bind_some, Option.bind_none, m_kt, m_kn, Option.toList_some, Option.toList_none, List.nil_append, List.cons_append, List.append_nil, ltn, ite_not, ↓reduceIte, true_or, or_true, nP1, oI_s, oI_n, bI_f, bI_t, i1_0, i0_0, Bool.false_eq_true, not_true_eq_false, not_false_eq_true, gC2 H1, h1, H1.isc, bears_ev O (d + 1) H1 R hi3, be, hmn', c0', cannotGive_ev O (d + 2) H1 R hi3, hc, Nat.zero_add]
        obtain ⟨sl', v, e⟩ := hcl s
        rw [e]
        simp only [e_26_0, e_26_1, e_26_3, e_26_4, e_26_8, e_26_9, e_26_12, e_26_15, e_26_16, e_26_18, e_26_21, e_26_22, e_26_25, e_26_27, e_26_28, e_26_31, e_26_33, e_26_35, e_26_36, e_26_38, e_26_39, e_26_41, e_26_42, e_26_45, e_26_48, e_26_51, e_26_53, e_26_54, e_26_55, e_26_59, e_26_60, e_26_63, e_26_64, e_26_65, e_26_67, e_26_69, e_26_72, e_26_73, e_26_76, e_26_78, e_26_79, e_26_82, e_26_83, e_26_85, e_26_86, e_26_87, e_26_88, e_26_91, e_26_92, e_26_94, e_26_96, e_26_97, e_26_100, e_26_101, e_26_104, e_26_105, e_26_107, e_26_110, e_26_113, e_26_116, e_26_118, Option.bind_some, Option.bind_none, m_kt, m_kn, Option.toList_some, Option.toList_none, List.nil_append, List.cons_append, List.append_nil, ltn, ite_not, ↓reduceIte, true_or, or_true, nP1, oI_s, oI_n, bI_f, bI_t, i1_0, i0_0, Bool.false_eq_true, not_true_eq_false, not_false_eq_true]
        exact ⟨(_, _, _), rfl⟩
      · rw [hcg hc]
        simp only [e_26_0, e_26_1, e_26_3, e_26_4, e_26_8, e_26_9, e_26_12, e_26_15, e_26_16, e_26_18, e_26_21, e_26_22, e_26_25, e_26_27, e_26_28, e_26_31, e_26_33, e_26_35, e_26_36, e_26_38, e_26_39, e_26_41, e_26_42, e_26_45, e_26_48, e_26_51, e_26_53, e_26_54, e_26_55, e_26_59, e_26_60, e_26_63, e_26_64, e_26_65, e_26_67, e_26_69, e_26_72, e_26_73, e_26_76, e_26_78, e_26_79, e_26_82, e_26_83, e_26_85, e_26_86, e_26_87, e_26_88, e_26_91, e_26_92, e_26_94, e_26_96, e_26_97, e_26_100, e_26_101, e_26_104, e_26_105, e_26_107, e_26_110, e_26_113, e_26_116, e_26_118, Option.bind_some, Option.bind_none, m_kt, m_kn, Option.toList_some, Option.toList_none, List.nil_append, List.cons_append, List.append_nil, ltn, ite_not, ↓reduceIte, true_or, or_true, nP1, oI_s, oI_n, bI_f, bI_t, i1_0, i0_0, Bool.false_eq_true, not_true_eq_false, not_false_eq_true, gC2 H1, h1, H1.isc, bears_ev O (d + 1) H1 R hi3, be, hmn', c0', cannotGive_ev O (d + 2) H1 R hi3, hc, Nat.add_zero]
        exact ⟨(_, _, _), rfl⟩) 0 (k0, mJ, mJ)
  obtain ⟨⟨sl, v1, v2⟩, e⟩ := e
  refine ⟨sl, ?_⟩
  simp only [e_26_0, e_26_1, e_26_3, e_26_4, e_26_8, e_26_9, e_26_12, e_26_15, e_26_16, e_26_18, e_26_21, e_26_22, e_26_25, e_26_27, e_26_28, e_26_31, e_26_33, e_26_35, e_26_36, e_26_38, e_26_39, e_26_41, e_26_42, e_26_45, e_26_48, e_26_51, e_26_53, e_26_54, e_26_55, e_26_59, e_26_60, e_26_63, e_26_64, e_26_65, e_26_67, e_26_69, e_26_72, e_26_73, e_26_76, e_26_78, e_26_79, e_26_82, e_26_83, e_26_85, e_26_86, e_26_87, e_26_88, e_26_91, e_26_92, e_26_94, e_26_96, e_26_97, e_26_100, e_26_101, e_26_104, e_26_105, e_26_107, e_26_110, e_26_113, e_26_116, e_26_118, Option.bind_some, Option.bind_none, m_kt, m_kn, Option.toList_some, Option.toList_none, List.nil_append, List.cons_append, List.append_nil, ltn, ite_not, ↓reduceIte, true_or, or_true, nP1, oI_s, oI_n, bI_f, bI_t, i1_0, i0_0, Bool.false_eq_true, not_true_eq_false, not_false_eq_true]
  simp only [nI_0] at e
  rw [← hk0] at e
  rw [e, e_26_6]
  simp only [e_26_0, e_26_1, e_26_3, e_26_4, e_26_8, e_26_9, e_26_12, e_26_15, e_26_16, e_26_18, e_26_21, e_26_22, e_26_25, e_26_27, e_26_28, e_26_31, e_26_33, e_26_35, e_26_36, e_26_38, e_26_39, e_26_41, e_26_42, e_26_45, e_26_48, e_26_51, e_26_53, e_26_54, e_26_55, e_26_59, e_26_60, e_26_63, e_26_64, e_26_65, e_26_67, e_26_69, e_26_72, e_26_73, e_26_76, e_26_78, e_26_79, e_26_82, e_26_83, e_26_85, e_26_86, e_26_87, e_26_88, e_26_91, e_26_92, e_26_94, e_26_96, e_26_97, e_26_100, e_26_101, e_26_104, e_26_105, e_26_107, e_26_110, e_26_113, e_26_116, e_26_118, Option.bind_some, Option.bind_none, m_kt, m_kn, Option.toList_some, Option.toList_none, List.nil_append, List.cons_append, List.append_nil, ltn, ite_not, ↓reduceIte, true_or, or_true, nP1, oI_s, oI_n, bI_f, bI_t, i1_0, i0_0, Bool.false_eq_true, not_true_eq_false, not_false_eq_true, gC2 (H.hk ha sl), Int32.le_refl]
  rfl
theorem fb_loop (O : mO) (d : Nat) (H : CA h a W) (ha : a < 28) (K : KA h) (R : rng W) {p most : Nat} (its bo : Int32) (hp : p < pN W) (hm : most ≤ 300) : ∀ (k j sl : Nat), most - j ≤ k → (beaN W p ≤ j ∨ most ≤ j) → j ≤ 2000 → (∀ i, i < j → i < most → trC W its p i = false) → (∃ i sl', trP W its most p = some i ∧ ev O (d + 3) 27 61 [.ref 55, .ref a, .int its, .int (nI most), .int (nI p), .int bo, .int (nI (j + 1))] [] (hk h sl) = some (.inl (some (.int (nI (1000 * p + (i + 1))))), hk h sl')) ∨ (trP W its most p = none ∧ ∃ sl' v, ev O (d + 3) 27 61 [.ref 55, .ref a, .int its, .int (nI most), .int (nI p), .int bo, .int (nI (j + 1))] [] (hk h sl) = ev O (d + 3) 27 106 [.ref 55, .ref a, .int its, .int (nI most), .int (nI p), .int bo, v] [] (hk h sl')) := by
  have hN := pN_le R
  intro k
  induction k with
  | zero =>
    intro j sl hk0 hb hj hf
    have h1 : ¬ nI (j + 1) ≤ nI most := nI_ge (by omega) (by omega)
    refine .inr ⟨fd_eqn (fun i hi => hf i (by omega) hi), ?_⟩
    rw [e_27_61]
    simp only [e_27_0, e_27_1, e_27_3, e_27_5, e_27_6, e_27_9, e_27_12, e_27_13, e_27_15, e_27_18, e_27_19, e_27_22, e_27_24, e_27_25, e_27_28, e_27_30, e_27_33, e_27_36, e_27_38, e_27_39, e_27_40, e_27_41, e_27_42, e_27_43, e_27_45, e_27_46, e_27_49, e_27_52, e_27_55, e_27_57, e_27_58, e_27_59, e_27_63, e_27_64, e_27_67, e_27_68, e_27_69, e_27_71, e_27_73, e_27_76, e_27_77, e_27_80, e_27_83, e_27_85, e_27_86, e_27_88, e_27_89, e_27_90, e_27_92, e_27_93, e_27_96, e_27_97, e_27_100, e_27_101, e_27_103, e_27_109, e_27_112, e_27_113, Option.bind_some, Option.bind_none, m_kt, m_kn, Option.toList_some, Option.toList_none, List.nil_append, List.cons_append, List.append_nil, ltn, ite_not, ↓reduceIte, true_or, or_true, nP1, oI_s, oI_n, bI_f, bI_t, i1_0, i0_0, Bool.false_eq_true, not_true_eq_false, not_false_eq_true, h1]
    exact ⟨_, _, rfl⟩
  | succ k ih =>
    intro j sl hk0 hb hj hf
    by_cases c : most ≤ j
    · have h1 : ¬ nI (j + 1) ≤ nI most := nI_ge (by omega) (by omega)
      refine .inr ⟨fd_eqn (fun i hi => hf i (by omega) hi), ?_⟩
      rw [e_27_61]
      simp only [e_27_0, e_27_1, e_27_3, e_27_5, e_27_6, e_27_9, e_27_12, e_27_13, e_27_15, e_27_18, e_27_19, e_27_22, e_27_24, e_27_25, e_27_28, e_27_30, e_27_33, e_27_36, e_27_38, e_27_39, e_27_40, e_27_41, e_27_42, e_27_43, e_27_45, e_27_46, e_27_49, e_27_52, e_27_55, e_27_57, e_27_58, e_27_59, e_27_63, e_27_64, e_27_67, e_27_68, e_27_69, e_27_71, e_27_73, e_27_76, e_27_77, e_27_80, e_27_83, e_27_85, e_27_86, e_27_88, e_27_89, e_27_90, e_27_92, e_27_93, e_27_96, e_27_97, e_27_100, e_27_101, e_27_103, e_27_109, e_27_112, e_27_113, Option.bind_some, Option.bind_none, m_kt, m_kn, Option.toList_some, Option.toList_none, List.nil_append, List.cons_append, List.append_nil, ltn, ite_not, ↓reduceIte, true_or, or_true, nP1, oI_s, oI_n, bI_f, bI_t, i1_0, i0_0, Bool.false_eq_true, not_true_eq_false, not_false_eq_true, h1]
      exact ⟨_, _, rfl⟩
    · have h1 : nI (j + 1) ≤ nI most := nI_le (by omega) (by omega)
      have hst := strike_ev O d (H.hk ha sl) ha (hk_KA K sl) R hp (show j + 1 < 2 ^ 20 by omega)
      obtain ⟨s1, s2⟩ := stS_rng (W := W) p (j + 1)
      have key : ∀ i, i < (stS W p (j + 1)).2 → trC W its p (j + i) = trC W its p j := fun i hi => by
        unfold trC
        rw [show j + i + 1 = j + 1 + i by omega, stS_sl R hp (by omega) hi]
      have hmx' : (if 1 ≤ nI (stS W p (j + 1)).2 then nI (stS W p (j + 1)).2 else 1) = nI (stS W p (j + 1)).2 := if_pos (nI_le (a := 1) s1 (by omega))
      have hd : ((stS W p (j + 1)).1 = its) = (trC W its p j = true) := by unfold trC; rw [decide_eq_true_eq]
      rw [e_27_61]
      cases hc : trC W its p j
      · simp only [e_27_0, e_27_1, e_27_3, e_27_5, e_27_6, e_27_9, e_27_12, e_27_13, e_27_15, e_27_18, e_27_19, e_27_22, e_27_24, e_27_25, e_27_28, e_27_30, e_27_33, e_27_36, e_27_38, e_27_39, e_27_40, e_27_41, e_27_42, e_27_43, e_27_45, e_27_46, e_27_49, e_27_52, e_27_55, e_27_57, e_27_58, e_27_59, e_27_63, e_27_64, e_27_67, e_27_68, e_27_69, e_27_71, e_27_73, e_27_76, e_27_77, e_27_80, e_27_83, e_27_85, e_27_86, e_27_88, e_27_89, e_27_90, e_27_92, e_27_93, e_27_96, e_27_97, e_27_100, e_27_101, e_27_103, e_27_109, e_27_112, e_27_113, Option.bind_some, Option.bind_none, m_kt, m_kn, Option.toList_some, Option.toList_none, List.nil_append, List.cons_append, List.append_nil, ltn, ite_not, ↓reduceIte, true_or, or_true, nP1, oI_s, oI_n, bI_f, bI_t, i1_0, i0_0, Bool.false_eq_true, not_true_eq_false, not_false_eq_true, h1, hk_isc K, hst, hk_hk, hd, hc, hk_g K, hmx', nA]
        have := ih (j + (stS W p (j + 1)).2) (stS W p (j + 1)).2 (by omega) (by omega) (by omega) (fun i hi him => by
          by_cases z : i < j
          · exact hf i z him
          · rw [show i = j + (i - j) by omega, key (i - j) (by omega), hc])
        rw [show j + (stS W p (j + 1)).2 + 1 = j + 1 + (stS W p (j + 1)).2 by omega] at this
        exact this
      · refine .inl ⟨j, (stS W p (j + 1)).2, fd_eq (by omega) hc (fun i hi => hf i hi (by omega)), ?_⟩
        have e1000 : (1000 : Int32) * nI p = nI (1000 * p) := by rw [← pk_mul]; rfl
        simp only [e_27_0, e_27_1, e_27_3, e_27_5, e_27_6, e_27_9, e_27_12, e_27_13, e_27_15, e_27_18, e_27_19, e_27_22, e_27_24, e_27_25, e_27_28, e_27_30, e_27_33, e_27_36, e_27_38, e_27_39, e_27_40, e_27_41, e_27_42, e_27_43, e_27_45, e_27_46, e_27_49, e_27_52, e_27_55, e_27_57, e_27_58, e_27_59, e_27_63, e_27_64, e_27_67, e_27_68, e_27_69, e_27_71, e_27_73, e_27_76, e_27_77, e_27_80, e_27_83, e_27_85, e_27_86, e_27_88, e_27_89, e_27_90, e_27_92, e_27_93, e_27_96, e_27_97, e_27_100, e_27_101, e_27_103, e_27_109, e_27_112, e_27_113, Option.bind_some, Option.bind_none, m_kt, m_kn, Option.toList_some, Option.toList_none, List.nil_append, List.cons_append, List.append_nil, ltn, ite_not, ↓reduceIte, true_or, or_true, nP1, oI_s, oI_n, bI_f, bI_t, i1_0, i0_0, Bool.false_eq_true, not_true_eq_false, not_false_eq_true, h1, hk_isc K, hst, hk_hk, hd, hc, nA, e1000]
theorem firstBack_ev (O : mO) (d : Nat) (H : CA h a W) (ha : a < 28) (K : KA h) (R : rng W) {most : Nat} (its : Int32) (hm : most ≤ 300) : ∃ sl, ev O (d + 3) 27 0 [.ref 55, .ref a, .int its, .int (nI most), mJ, mJ, mJ] [] h = some (.inl (some (.int (trF W its most))), hk h sl) := by
  have hN := pN_le R
  obtain ⟨k0, hk0⟩ := KA_hk K
  have e := fd_runE (ν := Nat × Value × Value) (c := fun p => (trP W its most p).isSome) (n := pN W) (F := fun i v => ev O (d + 3) 27 3 [.ref 55, .ref a, .int its, .int (nI most), .int (nI i), v.2.1, v.2.2] [] (hk h v.1)) (E := fun p r => ∃ sl, r = some (.inl (some (.int (nI (1000 * p + ((trP W its most p).getD 0 + 1))))), hk h sl)) (fun i v hi => by
    obtain ⟨sl, v1, v2⟩ := v
    have h1 : ¬ nI (pN W) ≤ nI i := nI_ge hi (by omega)
    have hi3 : i < 30 := by omega
    obtain ⟨be, bl⟩ := beaN_e R hi3
    have H1 := H.hk ha sl
    have hmn : (if nI most < nI (beaN W i) then nI most else nI (beaN W i)) = nI (min (beaN W i) most) := by
      by_cases z : most < beaN W i
      · rw [if_pos (nI_lt z (by omega)), Nat.min_eq_right (by omega)]
      · rw [if_neg (nI_nlt (by omega) (by omega)), Nat.min_eq_left (by omega)]
    have hmn' : (if nI (beaN W i) ≤ nI most then nI (beaN W i) else nI most) = nI (min (beaN W i) most) := by rw [← hmn]; simp only [ltn, ite_not]
    have e1000 : (1000 : Int32) * nI i = nI (1000 * i) := by rw [← pk_mul]; rfl
    have hz : ∀ j, j < min (beaN W i) most → trC W its i j = decide (its = 0) := fun j hj => by
      unfold trC
      rw [stS_0 (show j + 1 ≤ beaN W i by omega)]
      simp only [decide_eq_decide]
      exact ⟨fun e => e.symm, fun e => e.symm⟩
    have hle : (nI (min (beaN W i) most) ≤ 0) = (min (beaN W i) most = 0) := nle0 (by omega)
    simp only
    rw [e_27_3]
    by_cases c0 : its = 0 ∧ ¬ min (beaN W i) most = 0
    · have c0' : (its = 0) = True := eq_true c0.1
      have hp0 : trP W its most i = some 0 := fd_eq (by omega) (by rw [hz 0 (by omega)]; exact decide_eq_true c0.1) (fun _ q => by omega)
      refine ⟨fun _ => ⟨sl, ?_⟩, fun q => (by rw [hp0] at q; cases q)⟩
      rw [hp0]
      simp only [e_27_0, e_27_1, e_27_5, e_27_6, e_27_9, e_27_12, e_27_13, e_27_15, e_27_18, e_27_19, e_27_22, e_27_24, e_27_25, e_27_28, e_27_30, e_27_33, e_27_36, e_27_38, e_27_39, e_27_40, e_27_41, e_27_42, e_27_43, e_27_45, e_27_46, e_27_49, e_27_52, e_27_55, e_27_57, e_27_58, e_27_59, e_27_63, e_27_64, e_27_67, e_27_68, e_27_69, e_27_71, e_27_73, e_27_76, e_27_77, e_27_80, e_27_83, e_27_85, e_27_86, e_27_88, e_27_89, e_27_90, e_27_92, e_27_93, e_27_96, e_27_97, e_27_100, e_27_101, e_27_103, e_27_106, e_27_109, e_27_112, e_27_113, Option.bind_some, Option.bind_none, m_kt, m_kn, Option.toList_some, Option.toList_none, List.nil_append, List.cons_append, List.append_nil, ltn, ite_not, ↓reduceIte, true_or, or_true, nP1, oI_s, oI_n, bI_f, bI_t, i1_0, i0_0, Bool.false_eq_true, not_true_eq_false, not_false_eq_true, gC2 H1, h1, H1.isc, bears_ev O (d + 1) H1 R hi3, be, hmn', c0', hle, c0.2, e1000, Option.getD_some, Nat.zero_add]
    · have hf0 : ∀ j, j < min (beaN W i) most → j < most → trC W its i j = false := fun j hj _ => by
        rw [hz j hj]
        exact decide_eq_false (fun q => c0 ⟨q, by omega⟩)
      have hfl := fb_loop O d H ha K R (p := i) (most := most) its (nI (min (beaN W i) most)) hi hm most (min (beaN W i) most) sl (by omega) (by omega) (by omega) hf0
      have hto : ev O (d + 3) 27 24 [.ref 55, .ref a, .int its, .int (nI most), .int (nI i), .int (nI (min (beaN W i) most)), v2] [] (hk h sl) = ev O (d + 3) 27 42 [.ref 55, .ref a, .int its, .int (nI most), .int (nI i), .int (nI (min (beaN W i) most)), v2] [] (hk h sl) := by
        by_cases c1 : its = 0
        · have c2 : min (beaN W i) most = 0 := Classical.byContradiction (fun q => c0 ⟨c1, q⟩)
          simp only [e_27_24, e_27_25, e_27_28, e_27_30, eq_true c1, hle, eq_true c2, Option.bind_some, Option.bind_none, m_kt, m_kn, Option.toList_some, Option.toList_none, List.nil_append, List.cons_append, List.append_nil, ltn, ite_not, ↓reduceIte, true_or, or_true, nP1, oI_s, oI_n, bI_f, bI_t, i1_0, i0_0, Bool.false_eq_true, not_true_eq_false, not_false_eq_true]
        · simp only [e_27_24, e_27_25, eq_false c1, Option.bind_some, Option.bind_none, m_kt, m_kn, Option.toList_some, Option.toList_none, List.nil_append, List.cons_append, List.append_nil, ltn, ite_not, ↓reduceIte, true_or, or_true, nP1, oI_s, oI_n, bI_f, bI_t, i1_0, i0_0, Bool.false_eq_true, not_true_eq_false, not_false_eq_true]
      have hto3 : ev O (d + 3) 27 5 [.ref 55, .ref a, .int its, .int (nI most), .int (nI i), v1, v2] [.int (nI i)] (hk h sl) = ev O (d + 3) 27 24 [.ref 55, .ref a, .int its, .int (nI most), .int (nI i), .int (nI (min (beaN W i) most)), v2] [] (hk h sl) := by
        simp only [e_27_0, e_27_1, e_27_5, e_27_6, e_27_9, e_27_12, e_27_13, e_27_15, e_27_18, e_27_19, e_27_22, e_27_25, e_27_28, e_27_30, e_27_33, e_27_36, e_27_38, e_27_39, e_27_40, e_27_41, e_27_42, e_27_43, e_27_45, e_27_46, e_27_49, e_27_52, e_27_55, e_27_57, e_27_58, e_27_59, e_27_63, e_27_64, e_27_67, e_27_68, e_27_69, e_27_71, e_27_73, e_27_76, e_27_77, e_27_80, e_27_83, e_27_85, e_27_86, e_27_88, e_27_89, e_27_90, e_27_92, e_27_93, e_27_96, e_27_97, e_27_100, e_27_101, e_27_103, e_27_106, e_27_109, e_27_112, e_27_113, Option.bind_some, Option.bind_none, m_kt, m_kn, Option.toList_some, Option.toList_none, List.nil_append, List.cons_append, List.append_nil, ltn, ite_not, ↓reduceIte, true_or, or_true, nP1, oI_s, oI_n, bI_f, bI_t, i1_0, i0_0, Bool.false_eq_true, not_true_eq_false, not_false_eq_true, gC2 H1, h1, H1.isc, bears_ev O (d + 1) H1 R hi3, be, hmn']
      rw [hto3, hto]
      cases hc : (!brk W i && !bt its i)
      · simp only [e_27_0, e_27_1, e_27_5, e_27_6, e_27_9, e_27_12, e_27_13, e_27_15, e_27_18, e_27_19, e_27_22, e_27_24, e_27_25, e_27_28, e_27_30, e_27_33, e_27_36, e_27_38, e_27_39, e_27_40, e_27_41, e_27_42, e_27_43, e_27_45, e_27_46, e_27_49, e_27_52, e_27_55, e_27_57, e_27_58, e_27_59, e_27_63, e_27_64, e_27_67, e_27_68, e_27_69, e_27_71, e_27_73, e_27_76, e_27_77, e_27_80, e_27_83, e_27_85, e_27_86, e_27_88, e_27_89, e_27_90, e_27_92, e_27_93, e_27_96, e_27_97, e_27_100, e_27_101, e_27_103, e_27_109, e_27_112, e_27_113, Option.bind_some, Option.bind_none, m_kt, m_kn, Option.toList_some, Option.toList_none, List.nil_append, List.cons_append, List.append_nil, ltn, ite_not, ↓reduceIte, true_or, or_true, nP1, oI_s, oI_n, bI_f, bI_t, i1_0, i0_0, Bool.false_eq_true, not_true_eq_false, not_false_eq_true, H1.isc, cannotGive_ev O (d + 2) H1 R hi3, hc]
        rcases hfl with ⟨j, sl', ej, e⟩ | ⟨en, sl', v, e⟩
        · refine ⟨fun _ => ⟨sl', ?_⟩, fun q => (by rw [ej] at q; cases q)⟩
          rw [ej, e, Option.getD_some]
        · refine ⟨fun q => (by rw [en] at q; cases q), fun _ => ?_⟩
          rw [e]
          simp only [e_27_0, e_27_1, e_27_5, e_27_6, e_27_9, e_27_12, e_27_13, e_27_15, e_27_18, e_27_19, e_27_22, e_27_24, e_27_25, e_27_28, e_27_30, e_27_33, e_27_36, e_27_38, e_27_39, e_27_40, e_27_41, e_27_42, e_27_43, e_27_45, e_27_46, e_27_49, e_27_52, e_27_55, e_27_57, e_27_58, e_27_59, e_27_63, e_27_64, e_27_67, e_27_68, e_27_69, e_27_71, e_27_73, e_27_76, e_27_77, e_27_80, e_27_83, e_27_85, e_27_86, e_27_88, e_27_89, e_27_90, e_27_92, e_27_93, e_27_96, e_27_97, e_27_100, e_27_101, e_27_103, e_27_106, e_27_109, e_27_112, e_27_113, Option.bind_some, Option.bind_none, m_kt, m_kn, Option.toList_some, Option.toList_none, List.nil_append, List.cons_append, List.append_nil, ltn, ite_not, ↓reduceIte, true_or, or_true, nP1, oI_s, oI_n, bI_f, bI_t, i1_0, i0_0, Bool.false_eq_true, not_true_eq_false, not_false_eq_true]
          exact ⟨(_, _, _), rfl⟩
      · have en : trP W its most i = none := fd_eqn (fun j hj => by
          by_cases z : j < min (beaN W i) most
          · exact hf0 j z hj
          · simp only [Bool.and_eq_true, Bool.not_eq_true'] at hc
            unfold trC
            have hb := stS_bit R hi (f := j + 1) (by omega) hc.1
            refine decide_eq_false (fun q => ?_)
            rw [q, hc.2] at hb
            cases hb)
        refine ⟨fun q => (by rw [en] at q; cases q), fun _ => ?_⟩
        simp only [e_27_0, e_27_1, e_27_5, e_27_6, e_27_9, e_27_12, e_27_13, e_27_15, e_27_18, e_27_19, e_27_22, e_27_24, e_27_25, e_27_28, e_27_30, e_27_33, e_27_36, e_27_38, e_27_39, e_27_40, e_27_41, e_27_42, e_27_43, e_27_45, e_27_46, e_27_49, e_27_52, e_27_55, e_27_57, e_27_58, e_27_59, e_27_63, e_27_64, e_27_67, e_27_68, e_27_69, e_27_71, e_27_73, e_27_76, e_27_77, e_27_80, e_27_83, e_27_85, e_27_86, e_27_88, e_27_89, e_27_90, e_27_92, e_27_93, e_27_96, e_27_97, e_27_100, e_27_101, e_27_103, e_27_106, e_27_109, e_27_112, e_27_113, Option.bind_some, Option.bind_none, m_kt, m_kn, Option.toList_some, Option.toList_none, List.nil_append, List.cons_append, List.append_nil, ltn, ite_not, ↓reduceIte, true_or, or_true, nP1, oI_s, oI_n, bI_f, bI_t, i1_0, i0_0, Bool.false_eq_true, not_true_eq_false, not_false_eq_true, H1.isc, cannotGive_ev O (d + 2) H1 R hi3, hc]
        exact ⟨(_, _, _), rfl⟩) (k0, mJ, mJ)
  simp only [nI_0] at e
  rw [← hk0] at e
  unfold trF
  rcases e with ⟨i, ei, sl, e⟩ | ⟨en, ⟨sl, v1, v2⟩, e⟩
  · refine ⟨sl, ?_⟩
    rw [ei]
    simp only [e_27_0, e_27_1, e_27_5, e_27_6, e_27_9, e_27_12, e_27_13, e_27_15, e_27_18, e_27_19, e_27_22, e_27_24, e_27_25, e_27_28, e_27_30, e_27_33, e_27_36, e_27_38, e_27_39, e_27_40, e_27_41, e_27_42, e_27_43, e_27_45, e_27_46, e_27_49, e_27_52, e_27_55, e_27_57, e_27_58, e_27_59, e_27_63, e_27_64, e_27_67, e_27_68, e_27_69, e_27_71, e_27_73, e_27_76, e_27_77, e_27_80, e_27_83, e_27_85, e_27_86, e_27_88, e_27_89, e_27_90, e_27_92, e_27_93, e_27_96, e_27_97, e_27_100, e_27_101, e_27_103, e_27_106, e_27_109, e_27_112, e_27_113, Option.bind_some, Option.bind_none, m_kt, m_kn, Option.toList_some, Option.toList_none, List.nil_append, List.cons_append, List.append_nil, ltn, ite_not, ↓reduceIte, true_or, or_true, nP1, oI_s, oI_n, bI_f, bI_t, i1_0, i0_0, Bool.false_eq_true, not_true_eq_false, not_false_eq_true]
    rw [e]
    rfl
  · refine ⟨sl, ?_⟩
    rw [en]
    simp only [e_27_0, e_27_1, e_27_5, e_27_6, e_27_9, e_27_12, e_27_13, e_27_15, e_27_18, e_27_19, e_27_22, e_27_24, e_27_25, e_27_28, e_27_30, e_27_33, e_27_36, e_27_38, e_27_39, e_27_40, e_27_41, e_27_42, e_27_43, e_27_45, e_27_46, e_27_49, e_27_52, e_27_55, e_27_57, e_27_58, e_27_59, e_27_63, e_27_64, e_27_67, e_27_68, e_27_69, e_27_71, e_27_73, e_27_76, e_27_77, e_27_80, e_27_83, e_27_85, e_27_86, e_27_88, e_27_89, e_27_90, e_27_92, e_27_93, e_27_96, e_27_97, e_27_100, e_27_101, e_27_103, e_27_106, e_27_109, e_27_112, e_27_113, Option.bind_some, Option.bind_none, m_kt, m_kn, Option.toList_some, Option.toList_none, List.nil_append, List.cons_append, List.append_nil, ltn, ite_not, ↓reduceIte, true_or, or_true, nP1, oI_s, oI_n, bI_f, bI_t, i1_0, i0_0, Bool.false_eq_true, not_true_eq_false, not_false_eq_true]
    rw [e, e_27_3]
    simp only [e_27_0, e_27_1, e_27_5, e_27_6, e_27_9, e_27_12, e_27_13, e_27_15, e_27_18, e_27_19, e_27_22, e_27_24, e_27_25, e_27_28, e_27_30, e_27_33, e_27_36, e_27_38, e_27_39, e_27_40, e_27_41, e_27_42, e_27_43, e_27_45, e_27_46, e_27_49, e_27_52, e_27_55, e_27_57, e_27_58, e_27_59, e_27_63, e_27_64, e_27_67, e_27_68, e_27_69, e_27_71, e_27_73, e_27_76, e_27_77, e_27_80, e_27_83, e_27_85, e_27_86, e_27_88, e_27_89, e_27_90, e_27_92, e_27_93, e_27_96, e_27_97, e_27_100, e_27_101, e_27_103, e_27_106, e_27_109, e_27_112, e_27_113, Option.bind_some, Option.bind_none, m_kt, m_kn, Option.toList_some, Option.toList_none, List.nil_append, List.cons_append, List.append_nil, ltn, ite_not, ↓reduceIte, true_or, or_true, nP1, oI_s, oI_n, bI_f, bI_t, i1_0, i0_0, Bool.false_eq_true, not_true_eq_false, not_false_eq_true, gC2 (H.hk ha sl), Int32.le_refl]
    rfl
end Trace
section MTrace
variable {h : mH} {m : Nat → Int32} {W : WD}
theorem mtr_a (O : mO) (d : Nat) (H : MW h W) (R : rng W) (x its : Int32) {most : Nat} (hm : most ≤ 300) : ev O (d + 4) 229 45 [.ref 66, .int x, .int (nI most), .int 0, .int its, .int 0, .int 0, mJ] [] h = some (.inl (some (.int (trA W its most))), h) := by
  have hN := pN_le R
  have e := lp_runV (ν := Value) (F := fun i s v => ev O (d + 4) 229 45 [.ref 66, .int x, .int (nI most), .int 0, .int its, .int (nI s), .int (nI i), v] [] h) (f := trN W its most) (n := pN W) (fun i s v hi => by
    have h1 : ¬ nI (pN W) ≤ nI i := nI_ge hi (by omega)
    have e2 := lp_run (F := fun j n => ev O (d + 4) 229 57 [.ref 66, .int x, .int (nI most), .int 0, .int its, .int (nI n), .int (nI i), .int (nI (j + 1))] [] h) (f := fun j n => n + if trC W its i j = true then 1 else 0) (n := most) (fun j n hj => by
      have h2 : nI (j + 1) ≤ nI most := nI_le (by omega) (by omega)
      have hg := gets_ev O d H R hi (show j + 1 < 2 ^ 20 by omega)
      have hd : ((stS W i (j + 1)).1 = its) = (trC W its i j = true) := by unfold trC; rw [decide_eq_true_eq]
      rw [e_229_57]
      cases hc : trC W its i j <;> simp only [e_229_0, e_229_1, e_229_2, e_229_5, e_229_6, e_229_7, e_229_8, e_229_11, e_229_14, e_229_17, e_229_18, e_229_21, e_229_22, e_229_23, e_229_26, e_229_29, e_229_30, e_229_31, e_229_32, e_229_33, e_229_36, e_229_37, e_229_39, e_229_40, e_229_42, e_229_43, e_229_45, e_229_47, e_229_48, e_229_51, e_229_54, e_229_55, e_229_59, e_229_60, e_229_63, e_229_64, e_229_66, e_229_68, e_229_71, e_229_73, e_229_76, e_229_79, e_229_80, e_229_83, e_229_86, e_229_88, e_229_89, e_229_91, e_229_92, e_229_93, e_229_96, e_229_99, e_229_102, e_229_105, e_229_108, e_229_109, e_229_112, e_229_113, e_229_116, e_229_118, Option.bind_some, Option.bind_none, m_kt, m_kn, Option.toList_some, Option.toList_none, List.nil_append, List.cons_append, List.append_nil, ltn, ite_not, ↓reduceIte, true_or, or_true, nP1, oI_s, oI_n, bI_f, bI_t, i1_0, i0_0, Bool.false_eq_true, not_true_eq_false, not_false_eq_true, h2, H.1, hg, hd, hc, Nat.add_zero]) s
    rw [lp_fbct] at e2
    have h3 : ¬ nI (most + 1) ≤ nI most := nI_ge (by omega) (by omega)
    rw [e_229_45]
    simp only [e_229_0, e_229_1, e_229_2, e_229_5, e_229_6, e_229_7, e_229_8, e_229_11, e_229_14, e_229_17, e_229_18, e_229_21, e_229_22, e_229_23, e_229_26, e_229_29, e_229_30, e_229_31, e_229_32, e_229_33, e_229_36, e_229_37, e_229_39, e_229_40, e_229_42, e_229_43, e_229_47, e_229_48, e_229_51, e_229_54, e_229_55, e_229_59, e_229_60, e_229_63, e_229_64, e_229_66, e_229_68, e_229_71, e_229_73, e_229_76, e_229_79, e_229_80, e_229_83, e_229_86, e_229_88, e_229_89, e_229_91, e_229_92, e_229_93, e_229_96, e_229_99, e_229_102, e_229_105, e_229_108, e_229_109, e_229_112, e_229_113, e_229_116, e_229_118, Option.bind_some, Option.bind_none, m_kt, m_kn, Option.toList_some, Option.toList_none, List.nil_append, List.cons_append, List.append_nil, ltn, ite_not, ↓reduceIte, true_or, or_true, nP1, oI_s, oI_n, bI_f, bI_t, i1_0, i0_0, Bool.false_eq_true, not_true_eq_false, not_false_eq_true, h1, H.1, panes_ev O (d + 3) H R]
    refine ⟨.int (nI (most + 1)), Eq.trans e2 ?_⟩
    rw [e_229_57]
    simp only [e_229_0, e_229_1, e_229_2, e_229_5, e_229_6, e_229_7, e_229_8, e_229_11, e_229_14, e_229_17, e_229_18, e_229_21, e_229_22, e_229_23, e_229_26, e_229_29, e_229_30, e_229_31, e_229_32, e_229_33, e_229_36, e_229_37, e_229_39, e_229_40, e_229_42, e_229_43, e_229_47, e_229_48, e_229_51, e_229_54, e_229_55, e_229_59, e_229_60, e_229_63, e_229_64, e_229_66, e_229_68, e_229_71, e_229_73, e_229_76, e_229_79, e_229_80, e_229_83, e_229_86, e_229_88, e_229_89, e_229_91, e_229_92, e_229_93, e_229_96, e_229_99, e_229_102, e_229_105, e_229_108, e_229_109, e_229_112, e_229_113, e_229_116, e_229_118, Option.bind_some, Option.bind_none, m_kt, m_kn, Option.toList_some, Option.toList_none, List.nil_append, List.cons_append, List.append_nil, ltn, ite_not, ↓reduceIte, true_or, or_true, nP1, oI_s, oI_n, bI_f, bI_t, i1_0, i0_0, Bool.false_eq_true, not_true_eq_false, not_false_eq_true, h3]
    rfl) 0 mJ
  simp only [nI_0] at e
  obtain ⟨v, e⟩ := e
  rw [e, e_229_45]
  simp only [e_229_0, e_229_1, e_229_2, e_229_5, e_229_6, e_229_7, e_229_8, e_229_11, e_229_14, e_229_17, e_229_18, e_229_21, e_229_22, e_229_23, e_229_26, e_229_29, e_229_30, e_229_31, e_229_32, e_229_33, e_229_36, e_229_37, e_229_39, e_229_40, e_229_42, e_229_43, e_229_47, e_229_48, e_229_51, e_229_54, e_229_55, e_229_59, e_229_60, e_229_63, e_229_64, e_229_66, e_229_68, e_229_71, e_229_73, e_229_76, e_229_79, e_229_80, e_229_83, e_229_86, e_229_88, e_229_89, e_229_91, e_229_92, e_229_93, e_229_96, e_229_99, e_229_102, e_229_105, e_229_108, e_229_109, e_229_112, e_229_113, e_229_116, e_229_118, Option.bind_some, Option.bind_none, m_kt, m_kn, Option.toList_some, Option.toList_none, List.nil_append, List.cons_append, List.append_nil, ltn, ite_not, ↓reduceIte, true_or, or_true, nP1, oI_s, oI_n, bI_f, bI_t, i1_0, i0_0, Bool.false_eq_true, not_true_eq_false, not_false_eq_true, H.1, panes_ev O (d + 3) H R, Int32.le_refl]
  rfl
theorem mtr_f (O : mO) (d : Nat) (H : MW h W) (R : rng W) (x its : Int32) {most : Nat} (hm : most ≤ 300) : ev O (d + 4) 229 45 [.ref 66, .int x, .int (nI most), .int 1, .int its, .int 0, .int 0, mJ] [] h = some (.inl (some (.int (trF W its most))), h) := by
  have hN := pN_le R
  have e := fd_runV (ν := Value) (c := fun p => (trP W its most p).isSome) (n := pN W) (F := fun i v => ev O (d + 4) 229 45 [.ref 66, .int x, .int (nI most), .int 1, .int its, .int 0, .int (nI i), v] [] h) (r := fun p => some (.inl (some (.int (nI (1000 * p + ((trP W its most p).getD 0 + 1))))), h)) (fun i v hi => by
    have h1 : ¬ nI (pN W) ≤ nI i := nI_ge hi (by omega)
    have e1000 : (1000 : Int32) * nI i = nI (1000 * i) := by rw [← pk_mul]; rfl
    have e2 := fd_runV (ν := Unit) (c := trC W its i) (n := most) (F := fun j _ => ev O (d + 4) 229 57 [.ref 66, .int x, .int (nI most), .int 1, .int its, .int 0, .int (nI i), .int (nI (j + 1))] [] h) (r := fun j => some (.inl (some (.int (nI (1000 * i + (j + 1))))), h)) (fun j _ hj => by
      have h2 : nI (j + 1) ≤ nI most := nI_le (by omega) (by omega)
      have hg := gets_ev O d H R hi (show j + 1 < 2 ^ 20 by omega)
      have hd : ((stS W i (j + 1)).1 = its) = (trC W its i j = true) := by unfold trC; rw [decide_eq_true_eq]
      rw [e_229_57]
      refine ⟨fun hc => ?_, fun hc => ⟨(), ?_⟩⟩ <;> simp only [e_229_0, e_229_1, e_229_2, e_229_5, e_229_6, e_229_7, e_229_8, e_229_11, e_229_14, e_229_17, e_229_18, e_229_21, e_229_22, e_229_23, e_229_26, e_229_29, e_229_30, e_229_31, e_229_32, e_229_33, e_229_36, e_229_37, e_229_39, e_229_40, e_229_42, e_229_43, e_229_45, e_229_47, e_229_48, e_229_51, e_229_54, e_229_55, e_229_59, e_229_60, e_229_63, e_229_64, e_229_66, e_229_68, e_229_71, e_229_73, e_229_76, e_229_79, e_229_80, e_229_83, e_229_86, e_229_88, e_229_89, e_229_91, e_229_92, e_229_93, e_229_96, e_229_99, e_229_102, e_229_105, e_229_108, e_229_109, e_229_112, e_229_113, e_229_116, e_229_118, Option.bind_some, Option.bind_none, m_kt, m_kn, Option.toList_some, Option.toList_none, List.nil_append, List.cons_append, List.append_nil, ltn, ite_not, ↓reduceIte, true_or, or_true, nP1, oI_s, oI_n, bI_f, bI_t, i1_0, i0_0, Bool.false_eq_true, not_true_eq_false, not_false_eq_true, h2, H.1, hg, hd, hc, e1000, nA]) ()
    have h3 : ¬ nI (most + 1) ≤ nI most := nI_ge (by omega) (by omega)
    rw [e_229_45]
    simp only [e_229_0, e_229_1, e_229_2, e_229_5, e_229_6, e_229_7, e_229_8, e_229_11, e_229_14, e_229_17, e_229_18, e_229_21, e_229_22, e_229_23, e_229_26, e_229_29, e_229_30, e_229_31, e_229_32, e_229_33, e_229_36, e_229_37, e_229_39, e_229_40, e_229_42, e_229_43, e_229_47, e_229_48, e_229_51, e_229_54, e_229_55, e_229_59, e_229_60, e_229_63, e_229_64, e_229_66, e_229_68, e_229_71, e_229_73, e_229_76, e_229_79, e_229_80, e_229_83, e_229_86, e_229_88, e_229_89, e_229_91, e_229_92, e_229_93, e_229_96, e_229_99, e_229_102, e_229_105, e_229_108, e_229_109, e_229_112, e_229_113, e_229_116, e_229_118, Option.bind_some, Option.bind_none, m_kt, m_kn, Option.toList_some, Option.toList_none, List.nil_append, List.cons_append, List.append_nil, ltn, ite_not, ↓reduceIte, true_or, or_true, nP1, oI_s, oI_n, bI_f, bI_t, i1_0, i0_0, Bool.false_eq_true, not_true_eq_false, not_false_eq_true, h1, H.1, panes_ev O (d + 3) H R]
    rcases e2 with ⟨j, ej, e2⟩ | ⟨en, -, e2⟩
    · have ej : trP W its most i = some j := ej
      refine ⟨fun _ => ?_, fun q => (by rw [ej] at q; cases q)⟩
      rw [ej, Option.getD_some]
      exact e2
    · have en : trP W its most i = none := en
      refine ⟨fun q => (by rw [en] at q; cases q), fun _ => ⟨.int (nI (most + 1)), Eq.trans e2 ?_⟩⟩
      rw [e_229_57]
      simp only [e_229_0, e_229_1, e_229_2, e_229_5, e_229_6, e_229_7, e_229_8, e_229_11, e_229_14, e_229_17, e_229_18, e_229_21, e_229_22, e_229_23, e_229_26, e_229_29, e_229_30, e_229_31, e_229_32, e_229_33, e_229_36, e_229_37, e_229_39, e_229_40, e_229_42, e_229_43, e_229_47, e_229_48, e_229_51, e_229_54, e_229_55, e_229_59, e_229_60, e_229_63, e_229_64, e_229_66, e_229_68, e_229_71, e_229_73, e_229_76, e_229_79, e_229_80, e_229_83, e_229_86, e_229_88, e_229_89, e_229_91, e_229_92, e_229_93, e_229_96, e_229_99, e_229_102, e_229_105, e_229_108, e_229_109, e_229_112, e_229_113, e_229_116, e_229_118, Option.bind_some, Option.bind_none, m_kt, m_kn, Option.toList_some, Option.toList_none, List.nil_append, List.cons_append, List.append_nil, ltn, ite_not, ↓reduceIte, true_or, or_true, nP1, oI_s, oI_n, bI_f, bI_t, i1_0, i0_0, Bool.false_eq_true, not_true_eq_false, not_false_eq_true, h3]) mJ
  simp only [nI_0] at e
  unfold trF
  rcases e with ⟨i, ei, e⟩ | ⟨en, v, e⟩
  · rw [ei, e]; rfl
  · rw [en, e, e_229_45]
    simp only [e_229_0, e_229_1, e_229_2, e_229_5, e_229_6, e_229_7, e_229_8, e_229_11, e_229_14, e_229_17, e_229_18, e_229_21, e_229_22, e_229_23, e_229_26, e_229_29, e_229_30, e_229_31, e_229_32, e_229_33, e_229_36, e_229_37, e_229_39, e_229_40, e_229_42, e_229_43, e_229_47, e_229_48, e_229_51, e_229_54, e_229_55, e_229_59, e_229_60, e_229_63, e_229_64, e_229_66, e_229_68, e_229_71, e_229_73, e_229_76, e_229_79, e_229_80, e_229_83, e_229_86, e_229_88, e_229_89, e_229_91, e_229_92, e_229_93, e_229_96, e_229_99, e_229_102, e_229_105, e_229_108, e_229_109, e_229_112, e_229_113, e_229_116, e_229_118, Option.bind_some, Option.bind_none, m_kt, m_kn, Option.toList_some, Option.toList_none, List.nil_append, List.cons_append, List.append_nil, ltn, ite_not, ↓reduceIte, true_or, or_true, nP1, oI_s, oI_n, bI_f, bI_t, i1_0, i0_0, Bool.false_eq_true, not_true_eq_false, not_false_eq_true, H.1, panes_ev O (d + 3) H R, Int32.le_refl]
    rfl
def traceV (W : WD) (x y : Int32) (z : Bool) : Int32 := if z = true then trF W (x &&& allI (wN W) (gN W)) y.toNatClampNeg else trA W (x &&& allI (wN W) (gN W)) y.toNatClampNeg
theorem Mtrace_ev (O : mO) (d : Nat) (H : MS h m W) (R : rng W) (x y : Int32) (z : Bool) : ev O (d + 4) 229 0 [.ref 66, .int x, .int y, .int (bI z), mJ, mJ, mJ, mJ] [] h = if inB y 1 300 = true then some (.inl (some (.int (traceV W x y z))), tH h m 0) else some (.inl (some (.int (0))), tH h m 1) := by
  have H0 := H.t 0
  cases e1 : inB y 1 300
  · simp only [e_229_0, e_229_1, e_229_2, e_229_5, e_229_6, e_229_7, e_229_8, e_229_11, e_229_14, e_229_17, e_229_18, e_229_21, e_229_22, e_229_23, e_229_26, e_229_29, e_229_30, e_229_31, e_229_32, e_229_33, e_229_36, e_229_37, e_229_39, e_229_40, e_229_42, e_229_43, e_229_47, e_229_48, e_229_51, e_229_54, e_229_55, e_229_59, e_229_60, e_229_63, e_229_64, e_229_66, e_229_68, e_229_71, e_229_73, e_229_76, e_229_79, e_229_80, e_229_83, e_229_86, e_229_88, e_229_89, e_229_91, e_229_92, e_229_93, e_229_96, e_229_99, e_229_102, e_229_105, e_229_108, e_229_109, e_229_112, e_229_113, e_229_116, e_229_118, Option.bind_some, Option.bind_none, m_kt, m_kn, Option.toList_some, Option.toList_none, List.nil_append, List.cons_append, List.append_nil, ltn, ite_not, ↓reduceIte, true_or, or_true, nP1, oI_s, oI_n, bI_f, bI_t, i1_0, i0_0, Bool.false_eq_true, not_true_eq_false, not_false_eq_true, pMt H, H0.isc, in_ev, e1, thr1_ev O (d + 3) H0, tH_tH]
  · have hy : inB y 0 (nI 300) = true := by
      rw [inB_t] at e1 ⊢
      refine ⟨?_, e1.2⟩
      have := e1.1
      rw [i_le] at this ⊢
      have a : (1 : Int32).toInt = 1 := by decide
      have b : (0 : Int32).toInt = 0 := by decide
      omega
    obtain ⟨k, hk, rfl⟩ := inB_n (by omega) hy
    unfold traceV
    rw [nI_clamp (by omega)]
    cases z
    · simp only [e_229_0, e_229_1, e_229_2, e_229_5, e_229_6, e_229_7, e_229_8, e_229_11, e_229_14, e_229_17, e_229_18, e_229_21, e_229_22, e_229_23, e_229_26, e_229_29, e_229_30, e_229_31, e_229_32, e_229_33, e_229_36, e_229_37, e_229_39, e_229_40, e_229_42, e_229_43, e_229_47, e_229_48, e_229_51, e_229_54, e_229_55, e_229_59, e_229_60, e_229_63, e_229_64, e_229_66, e_229_68, e_229_71, e_229_73, e_229_76, e_229_79, e_229_80, e_229_83, e_229_86, e_229_88, e_229_89, e_229_91, e_229_92, e_229_93, e_229_96, e_229_99, e_229_102, e_229_105, e_229_108, e_229_109, e_229_112, e_229_113, e_229_116, e_229_118, Option.bind_some, Option.bind_none, m_kt, m_kn, Option.toList_some, Option.toList_none, List.nil_append, List.cons_append, List.append_nil, ltn, ite_not, ↓reduceIte, true_or, or_true, nP1, oI_s, oI_n, bI_f, bI_t, i1_0, i0_0, Bool.false_eq_true, not_true_eq_false, not_false_eq_true, pMt H, H0.isc, in_ev, e1, thr0_ev O (d + 3) H0, all_ev O (d + 2) H0.w R, mtr_a O d H0.w R _ _ hk]
    · simp only [e_229_0, e_229_1, e_229_2, e_229_5, e_229_6, e_229_7, e_229_8, e_229_11, e_229_14, e_229_17, e_229_18, e_229_21, e_229_22, e_229_23, e_229_26, e_229_29, e_229_30, e_229_31, e_229_32, e_229_33, e_229_36, e_229_37, e_229_39, e_229_40, e_229_42, e_229_43, e_229_47, e_229_48, e_229_51, e_229_54, e_229_55, e_229_59, e_229_60, e_229_63, e_229_64, e_229_66, e_229_68, e_229_71, e_229_73, e_229_76, e_229_79, e_229_80, e_229_83, e_229_86, e_229_88, e_229_89, e_229_91, e_229_92, e_229_93, e_229_96, e_229_99, e_229_102, e_229_105, e_229_108, e_229_109, e_229_112, e_229_113, e_229_116, e_229_118, Option.bind_some, Option.bind_none, m_kt, m_kn, Option.toList_some, Option.toList_none, List.nil_append, List.cons_append, List.append_nil, ltn, ite_not, ↓reduceIte, true_or, or_true, nP1, oI_s, oI_n, bI_f, bI_t, i1_0, i0_0, Bool.false_eq_true, not_true_eq_false, not_false_eq_true, pMt H, H0.isc, in_ev, e1, thr0_ev O (d + 3) H0, all_ev O (d + 2) H0.w R, mtr_f O d H0.w R _ _ hk]
end MTrace
section GTrace
variable {h : mH} {g : gT} {W : WD}
theorem Gtrace_ev (O : mO) (d : Nat) (G : h.1[0]? = some (oG g)) (H : CA h g.1 W) (ha : g.1 < 28) (K : KA h) (R : rng W) (x y : Int32) (z : Bool) : ∃ sl, ev O (d + 4) 128 0 [.ref 0, .int x, .int y, .int (bI z), mJ] [] h = if inB y 1 300 = true then some (.inl (some (.int (traceV W x y z))), hk h sl) else some (.inr 0, (h.1, h.2 + 1)) := by
  cases e1 : inB y 1 300
  · simp only [e_128_0, e_128_1, e_128_2, e_128_5, e_128_8, e_128_9, e_128_10, e_128_13, e_128_16, e_128_17, e_128_19, e_128_20, e_128_23, e_128_24, e_128_27, e_128_28, e_128_31, e_128_33, e_128_34, e_128_37, e_128_40, e_128_41, e_128_44, e_128_45, e_128_48, e_128_50, e_128_51, e_128_54, Option.bind_some, Option.bind_none, m_kt, m_kn, Option.toList_some, Option.toList_none, List.nil_append, List.cons_append, List.append_nil, ltn, ite_not, ↓reduceIte, true_or, or_true, nP1, oI_s, oI_n, bI_f, bI_t, i1_0, i0_0, Bool.false_eq_true, not_true_eq_false, not_false_eq_true, iscG G, checkWithin_ev, e1]
    exact ⟨0, trivial⟩
  · have hy : inB y 0 (nI 300) = true := by
      rw [inB_t] at e1 ⊢
      refine ⟨?_, e1.2⟩
      have := e1.1
      rw [i_le] at this ⊢
      have a : (1 : Int32).toInt = 1 := by decide
      have b : (0 : Int32).toInt = 0 := by decide
      omega
    obtain ⟨k, hk', rfl⟩ := inB_n (by omega) hy
    unfold traceV
    rw [nI_clamp (by omega)]
    cases z
    · obtain ⟨sl, e⟩ := countBack_ev O d H ha K R (x &&& allI (wN W) (gN W)) hk'
      simp only [e_128_0, e_128_1, e_128_2, e_128_5, e_128_8, e_128_9, e_128_10, e_128_13, e_128_16, e_128_17, e_128_19, e_128_20, e_128_23, e_128_24, e_128_27, e_128_28, e_128_31, e_128_33, e_128_34, e_128_37, e_128_40, e_128_41, e_128_44, e_128_45, e_128_48, e_128_50, e_128_51, e_128_54, Option.bind_some, Option.bind_none, m_kt, m_kn, Option.toList_some, Option.toList_none, List.nil_append, List.cons_append, List.append_nil, ltn, ite_not, ↓reduceIte, true_or, or_true, nP1, oI_s, oI_n, bI_f, bI_t, i1_0, i0_0, Bool.false_eq_true, not_true_eq_false, not_false_eq_true, iscG G, checkWithin_ev, e1, gG0 G, gG8 G, gC3 H, K_isc K, e]
      exact ⟨sl, rfl⟩
    · obtain ⟨sl, e⟩ := firstBack_ev O d H ha K R (x &&& allI (wN W) (gN W)) hk'
      simp only [e_128_0, e_128_1, e_128_2, e_128_5, e_128_8, e_128_9, e_128_10, e_128_13, e_128_16, e_128_17, e_128_19, e_128_20, e_128_23, e_128_24, e_128_27, e_128_28, e_128_31, e_128_33, e_128_34, e_128_37, e_128_40, e_128_41, e_128_44, e_128_45, e_128_48, e_128_50, e_128_51, e_128_54, Option.bind_some, Option.bind_none, m_kt, m_kn, Option.toList_some, Option.toList_none, List.nil_append, List.cons_append, List.append_nil, ltn, ite_not, ↓reduceIte, true_or, or_true, nP1, oI_s, oI_n, bI_f, bI_t, i1_0, i0_0, Bool.false_eq_true, not_true_eq_false, not_false_eq_true, iscG G, checkWithin_ev, e1, gG0 G, gG8 G, gC3 H, K_isc K, e]
      exact ⟨sl, rfl⟩
end GTrace
