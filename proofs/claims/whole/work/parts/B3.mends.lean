/-! The reference mends; its rounds -/
def mdF (s : Int32) : Nat → WD → WD := fun p V => if bt s p = true then upd V (7 + 6 * p + 3) 0 else V
def mdW (W : WD) (s : Int32) : WD := lp (mdF s) (pN W) W
theorem md_o {s : Int32} {i : Nat} (V : WD) : ∀ n, (∀ p, p < n → i ≠ 7 + 6 * p + 3) → lp (mdF s) n V i = V i
  | 0, _ => rfl
  | n + 1, h => by
    rw [lp_s, mdF]
    split
    · rw [pk_un (h n (by omega))]; exact md_o V n (fun p hp => h p (by omega))
    · exact md_o V n (fun p hp => h p (by omega))
theorem md_c {s : Int32} {p : Nat} (V : WD) : ∀ n, lp (mdF s) n V (7 + 6 * p + 3) = if p < n ∧ bt s p = true then 0 else V (7 + 6 * p + 3)
  | 0 => by rw [lp_0, if_neg (by omega)]
  | n + 1 => by
    have ih := md_c (s := s) (p := p) V n
    rw [lp_s, mdF]
    by_cases c : p = n
    · subst c
      by_cases b : bt s p = true
      · rw [if_pos b, pk_us, if_pos ⟨by omega, b⟩]
      · rw [if_neg b, ih, if_neg (by omega), if_neg (fun q => b q.2)]
    · have e : lp (mdF s) n V (7 + 6 * p + 3) = if p < n + 1 ∧ bt s p = true then 0 else V (7 + 6 * p + 3) := by
        rw [ih]
        congr 1
        apply propext
        constructor <;> (rintro ⟨x, y⟩; exact ⟨by omega, y⟩)
      split
      · rw [pk_un (by omega)]; exact e
      · exact e
section Md
variable {W : WD} {s : Int32} {n : Nat}
theorem md_w {i : Nat} (hi : i < 7 ∨ 187 ≤ i) (hn : n ≤ 30) : lp (mdF s) n W i = W i := md_o W n (fun p hp => by omega)
theorem md_k {p k : Nat} (hk : k < 6) (h3 : k ≠ 3) : lp (mdF s) n W (7 + 6 * p + k) = W (7 + 6 * p + k) := md_o W n (fun q hq => by omega)
theorem md_wN (hn : n ≤ 30) : wN (lp (mdF s) n W) = wN W := by unfold wN; rw [md_w (by omega) hn]
theorem md_gN (hn : n ≤ 30) : gN (lp (mdF s) n W) = gN W := by unfold gN; rw [md_w (by omega) hn]
theorem md_pN (hn : n ≤ 30) : pN (lp (mdF s) n W) = pN W := by unfold pN; rw [md_wN hn, md_gN hn]
theorem md_kN (hn : n ≤ 30) : kN (lp (mdF s) n W) = kN W := by unfold kN; rw [md_w (by omega) hn]
theorem md_sN (hn : n ≤ 30) : sN (lp (mdF s) n W) = sN W := by unfold sN; rw [md_w (by omega) hn]
/-- a world with other panes -/
theorem rng_pan {W V : WD} (R : rng W) (ho : ∀ i, i < 7 ∨ (187 ≤ i ∧ i < 427) → V i = W i) (hp : rngP V) : rng V := by
  have e : ∀ i, i < 7 → V i = W i := fun i hi => ho i (by omega)
  have w1 : wN V = wN W := by unfold wN; rw [e 0 (by omega)]
  have w2 : gN V = gN W := by unfold gN; rw [e 1 (by omega)]
  have w3 : kN V = kN W := by unfold kN; rw [e 2 (by omega)]
  have w4 : sN V = sN W := by unfold sN; rw [e 5 (by omega)]
  have w5 : pN V = pN W := by unfold pN; rw [w1, w2]
  have hk := kN_le R
  obtain ⟨r1, r2, r3, r4⟩ := R
  refine ⟨?_, hp, ?_, ?_⟩
  · unfold rngN at *
    rw [w1, w2, w3, w4, e 0 (by omega), e 1 (by omega), e 2 (by omega), e 5 (by omega), e 3 (by omega), e 6 (by omega)]
    exact r1
  · intro k hk'
    rw [w3] at hk'
    have := r3 k hk'
    rw [w5, ho (187 + 5 * k) (by omega), ho (187 + 5 * k + 1) (by omega), ho (187 + 5 * k + 2) (by omega), ho (187 + 5 * k + 3) (by omega), ho (187 + 5 * k + 4) (by omega)]
    exact this
  · intro i hi
    rw [ho (247 + i) (by omega)]
    exact r4 i hi
theorem md_rng (R : rng W) (hn : n ≤ 30) : rng (lp (mdF s) n W) := by
  refine rng_pan R (fun i hi => md_w (by omega) hn) (fun p hp => ?_)
  have q := rP R hp
  have e0 : lp (mdF s) n W (7 + 6 * p) = W (7 + 6 * p) := md_k (k := 0) (by omega) (by omega)
  rw [e0, md_k (k := 1) (by omega) (by omega), md_k (k := 2) (by omega) (by omega), md_k (k := 4) (by omega) (by omega), md_k (k := 5) (by omega) (by omega), md_c]
  refine ⟨q.1, q.2.1, q.2.2.1, ?_, q.2.2.2.2⟩
  split
  · unfold bd; decide
  · exact q.2.2.2.1
theorem md_wc (R : rng W) (l : Int32) (hl : ¬ l ≤ 0) : wcS (mdW W s) l = wcS W l &&& (s ^^^ (-1)) := by
  have hN := pN_le R
  unfold mdW
  apply b_ext
  intro i hi
  rw [b_and, bt_not _ hi, wcS_bs, wcS_bs, md_pN hN, bt_bs (by omega) _ hi, bt_bs (by omega) _ hi]
  by_cases c : i < pN W
  · rw [md_c, decide_eq_true c]
    simp only [Bool.true_and]
    by_cases b : bt s i = true
    · rw [if_pos ⟨c, b⟩, b]; simp [hl]
    · rw [if_neg (fun q => b q.2)]
      have b : bt s i = false := by simpa using b
      rw [b]; simp
  · rw [decide_eq_false c]; rfl
end Md
def mdS (W : WD) (s : Int32) : Int32 := lp (fun p t => if bt s p = true then t + W (7 + 6 * p + 3) else t) (pN W) 0
section MMends
variable {h : mH} {m : Nat → Int32} {W : WD}
theorem mends_ev (O : mO) (d : Nat) (H : MS h m W) (R : rng W) (s : Int32) : ev O (d + 1) 248 0 [.ref 66, .int s, mJ, mJ] [] h = some (.inl (some (.int (mdS W s))), hT h (mdW W s)) := by
  have hN := pN_le R
  have e := lp_run (F := fun i t => ev O (d + 1) 248 4 [.ref 66, .int s, .int t, .int (nI i)] [] (hT h (lp (mdF s) i W))) (f := fun p t => if bt s p = true then t + W (7 + 6 * p + 3) else t) (n := pN W) (fun i t hi => by
    have h1 : ¬ nI (pN W) ≤ nI i := nI_ge hi (by omega)
    have hi3 : i < 30 := by omega
    have H1 := H.hT (lp (mdF s) i W)
    have pe := panes_ev O d H1.w (md_rng R (show i ≤ 30 by omega))
    rw [md_pN (by omega)] at pe
    have oe := of3_ev O d H1.w hi3
    rw [md_c, if_neg (by omega)] at oe
    have se := sets_ev O d H1 hi3 (k := 3) (by omega) 0
    rw [hT_hT] at se
    have se : ev O (d) 159 0 [.ref 66, .int (nI i), .int 3, .int 0] [] (hT h (lp (mdF s) i W)) = some (.inl none, hT h (upd (lp (mdF s) i W) (7 + 6 * i + 3) 0)) := se
    rw [e_248_4]
    have ls : lp (mdF s) (i + 1) W = mdF s i (lp (mdF s) i W) := rfl
    rw [ls]
    unfold mdF at *
    cases c : bt s i
    · simp only [e_248_0, e_248_1, e_248_2, e_248_3, e_248_5, e_248_6, e_248_9, e_248_12, e_248_13, e_248_14, e_248_17, e_248_20, e_248_23, e_248_24, e_248_25, e_248_26, e_248_27, e_248_30, e_248_31, e_248_32, e_248_33, e_248_34, e_248_35, e_248_36, e_248_39, e_248_42, e_248_45, e_248_46, Option.bind_some, Option.bind_none, m_kt, m_kn, Option.toList_some, Option.toList_none, List.nil_append, List.cons_append, List.append_nil, ltn, ite_not, ↓reduceIte, true_or, or_true, nP1, oI_s, oI_n, bI_f, bI_t, i1_0, i0_0, Bool.false_eq_true, not_true_eq_false, not_false_eq_true, H1.isc, pe, h1, has_ev O d _ s (show i < 32 by omega), c]
    · simp only [e_248_0, e_248_1, e_248_2, e_248_3, e_248_5, e_248_6, e_248_9, e_248_12, e_248_13, e_248_14, e_248_17, e_248_20, e_248_23, e_248_24, e_248_25, e_248_26, e_248_27, e_248_30, e_248_31, e_248_32, e_248_33, e_248_34, e_248_35, e_248_36, e_248_39, e_248_42, e_248_45, e_248_46, Option.bind_some, Option.bind_none, m_kt, m_kn, Option.toList_some, Option.toList_none, List.nil_append, List.cons_append, List.append_nil, ltn, ite_not, ↓reduceIte, true_or, or_true, nP1, oI_s, oI_n, bI_f, bI_t, i1_0, i0_0, Bool.false_eq_true, not_true_eq_false, not_false_eq_true, H1.isc, pe, h1, has_ev O d _ s (show i < 32 by omega), c, oe, se]) 0
  have h00 : hT h (lp (mdF s) 0 W) = h := by unfold hT; rw [lp_0, hset H.2]
  rw [h00] at e
  have H1 := H.hT (lp (mdF s) (pN W) W)
  have pe := panes_ev O d H1.w (md_rng R hN)
  rw [md_pN hN] at pe
  simp only [nI_0] at e
  simp only [e_248_0, e_248_1, e_248_2, e_248_3, e_248_5, e_248_6, e_248_9, e_248_12, e_248_13, e_248_14, e_248_17, e_248_20, e_248_23, e_248_24, e_248_25, e_248_26, e_248_27, e_248_30, e_248_31, e_248_32, e_248_33, e_248_34, e_248_35, e_248_36, e_248_39, e_248_42, e_248_45, e_248_46, Option.bind_some, Option.bind_none, m_kt, m_kn, Option.toList_some, Option.toList_none, List.nil_append, List.cons_append, List.append_nil, ltn, ite_not, ↓reduceIte, true_or, or_true, nP1, oI_s, oI_n, bI_f, bI_t, i1_0, i0_0, Bool.false_eq_true, not_true_eq_false, not_false_eq_true]
  rw [e, e_248_4]
  simp only [e_248_0, e_248_1, e_248_2, e_248_3, e_248_5, e_248_6, e_248_9, e_248_12, e_248_13, e_248_14, e_248_17, e_248_20, e_248_23, e_248_24, e_248_25, e_248_26, e_248_27, e_248_30, e_248_31, e_248_32, e_248_33, e_248_34, e_248_35, e_248_36, e_248_39, e_248_42, e_248_45, e_248_46, Option.bind_some, Option.bind_none, m_kt, m_kn, Option.toList_some, Option.toList_none, List.nil_append, List.cons_append, List.append_nil, ltn, ite_not, ↓reduceIte, true_or, or_true, nP1, oI_s, oI_n, bI_f, bI_t, i1_0, i0_0, Bool.false_eq_true, not_true_eq_false, not_false_eq_true, H1.isc, pe, Int32.le_refl]
  rfl
theorem rd_0 {w g : Nat} {br : Int32} : grS w g 0 br = 0 := by
  have hz : fsT 0 = 0 := by
    apply b_ext
    intro i hi
    rw [bt_fsT _ hi, b_0]; rfl
  unfold grS
  rw [hz]
  refine grN_e ⟨.inl rfl, fun s hs h0 _ => ?_⟩
  have := wi_le hs
  have z : uN 0 = 0 := rfl
  omega
theorem mrd_loop (O : mO) (d : Nat) (H : MS h m W) (R : rng W) : ∀ (n i : Nat) (V : WD), rng V → (∀ j, (j < 7 ∨ 187 ≤ j) → V j = W j) → (∀ p k, k < 6 → k ≠ 3 → V (7 + 6 * p + k) = W (7 + 6 * p + k)) → fb_ct (bt (wcS V 1)) 32 ≤ n → i + n ≤ 100 → ∃ V', rng V' ∧ (∀ j, (j < 7 ∨ 187 ≤ j) → V' j = W j) ∧ (∀ p k, k < 6 → k ≠ 3 → V' (7 + 6 * p + k) = W (7 + 6 * p + k)) ∧ ev O (d + 6) 250 38 [.ref 66, .int (nI i), .int (nI (grS (wN W) (gN W) (wcS V 1) (wcS V 3)))] [] (hT h V) = ev O (d + 6) 250 59 [.ref 66, .int (nI (i + rdS (wN W) (gN W) n (wcS V 1) (wcS V 3))), .int 0] [] (hT h V') := by
  have hN := pN_le R
  intro n
  induction n with
  | zero =>
    intro i V RV o1 o2 hc hi
    have z : wcS V 1 = 0 := bit_0.mpr (fun i hi => fb_ct_zero.mp (Nat.le_zero.mp hc) i hi)
    refine ⟨V, RV, o1, o2, ?_⟩
    rw [z, rd_0, e_250_38]
    simp only [e_250_0, e_250_1, e_250_2, e_250_5, e_250_6, e_250_7, e_250_8, e_250_10, e_250_13, e_250_14, e_250_17, e_250_18, e_250_19, e_250_20, e_250_21, e_250_24, e_250_25, e_250_28, e_250_31, e_250_32, e_250_33, e_250_34, e_250_37, e_250_39, e_250_42, e_250_43, e_250_44, e_250_47, e_250_48, e_250_51, e_250_52, e_250_55, e_250_56, e_250_60, e_250_61, e_250_62, e_250_64, e_250_67, e_250_68, e_250_69, e_250_70, e_250_71, e_250_74, e_250_75, e_250_76, e_250_79, e_250_82, e_250_85, e_250_86, Option.bind_some, Option.bind_none, m_kt, m_kn, Option.toList_some, Option.toList_none, List.nil_append, List.cons_append, List.append_nil, ltn, ite_not, ↓reduceIte, true_or, or_true, nP1, oI_s, oI_n, bI_f, bI_t, i1_0, i0_0, Bool.false_eq_true, not_true_eq_false, not_false_eq_true, nI_0, m1m1, Nat.one_ne_zero, two_ne0]
    rfl
  | succ n ih =>
    intro i V RV o1 o2 hc hi
    have vw : wN V = wN W := by unfold wN; rw [o1 0 (by omega)]
    have vg : gN V = gN W := by unfold gN; rw [o1 1 (by omega)]
    have vp : pN V = pN W := by unfold pN; rw [vw, vg]
    by_cases c : grS (wN W) (gN W) (wcS V 1) (wcS V 3) = 0
    · refine ⟨V, RV, o1, o2, ?_⟩
      rw [rdS, if_pos c, c, e_250_38]
      simp only [e_250_0, e_250_1, e_250_2, e_250_5, e_250_6, e_250_7, e_250_8, e_250_10, e_250_13, e_250_14, e_250_17, e_250_18, e_250_19, e_250_20, e_250_21, e_250_24, e_250_25, e_250_28, e_250_31, e_250_32, e_250_33, e_250_34, e_250_37, e_250_39, e_250_42, e_250_43, e_250_44, e_250_47, e_250_48, e_250_51, e_250_52, e_250_55, e_250_56, e_250_60, e_250_61, e_250_62, e_250_64, e_250_67, e_250_68, e_250_69, e_250_70, e_250_71, e_250_74, e_250_75, e_250_76, e_250_79, e_250_82, e_250_85, e_250_86, Option.bind_some, Option.bind_none, m_kt, m_kn, Option.toList_some, Option.toList_none, List.nil_append, List.cons_append, List.append_nil, ltn, ite_not, ↓reduceIte, true_or, or_true, nP1, oI_s, oI_n, bI_f, bI_t, i1_0, i0_0, Bool.false_eq_true, not_true_eq_false, not_false_eq_true, nI_0, m1m1, Nat.one_ne_zero, two_ne0]
      rfl
    · have sv : sub 30 (wcS V 1) := sub_mono (sub_wc RV 1) (by have := pN_le RV; omega)
      have gi := grS_in (w := wN W) (g := gN W) (br := wcS V 3) sv
      have gz : ¬ nI (grS (wN W) (gN W) (wcS V 1) (wcS V 3)) = 0 := nI_ne0 (by omega) (by omega)
      have HV := H.hT V
      have me := mends_ev O (d + 4) HV RV (nI (grS (wN W) (gN W) (wcS V 1) (wcS V 3)))
      rw [hT_hT] at me
      have RV2 : rng (mdW V (nI (grS (wN W) (gN W) (wcS V 1) (wcS V 3)))) := md_rng RV (pN_le RV)
      have H2 := H.hT (mdW V (nI (grS (wN W) (gN W) (wcS V 1) (wcS V 3))))
      have re := roundNow_ev O d H2.w RV2
      have wc1 := md_wc (s := nI (grS (wN W) (gN W) (wcS V 1) (wcS V 3))) RV 1 (by decide)
      have wc3 := md_wc (s := nI (grS (wN W) (gN W) (wcS V 1) (wcS V 3))) RV 3 (by decide)
      have mw : wN (mdW V (nI (grS (wN W) (gN W) (wcS V 1) (wcS V 3)))) = wN W := (md_wN (pN_le RV)).trans vw
      have mg : gN (mdW V (nI (grS (wN W) (gN W) (wcS V 1) (wcS V 3)))) = gN W := (md_gN (pN_le RV)).trans vg
      rw [mw, mg] at re
      -- one fewer
      have fewer : fb_ct (bt (wcS (mdW V (nI (grS (wN W) (gN W) (wcS V 1) (wcS V 3)))) 1)) 32 ≤ n := by
        have ex : ∃ j, j < 32 ∧ bt (nI (grS (wN W) (gN W) (wcS V 1) (wcS V 3))) j = true := by
          apply Classical.byContradiction
          intro q
          exact gz (bit_0.mpr (fun j hj => by
            cases e : bt (nI (grS (wN W) (gN W) (wcS V 1) (wcS V 3))) j
            · rfl
            · exact absurd ⟨j, hj, e⟩ q))
        obtain ⟨j, hj, bj⟩ := ex
        have u := fb_ct_upd (bt (wcS V 1)) false hj
        rw [gi.2 j hj bj] at u
        simp only [Bool.false_eq_true, ↓reduceIte] at u
        have l : fb_ct (bt (wcS (mdW V (nI (grS (wN W) (gN W) (wcS V 1) (wcS V 3)))) 1)) 32 ≤ fb_ct (fun k => if k = j then false else bt (wcS V 1) k) 32 := fb_ct_sub (fun k hk b => by
          rw [wc1, b_and, bt_not _ hk, Bool.and_eq_true] at b
          by_cases z : k = j
          · subst z; rw [bj] at b; simp at b
          · rw [if_neg z]; exact b.1)
        omega
      obtain ⟨V', r1, r2, r3, e⟩ := ih (i + 1) (mdW V (nI (grS (wN W) (gN W) (wcS V 1) (wcS V 3)))) RV2 (fun j hj => (md_w hj (pN_le RV)).trans (o1 j hj)) (fun p k hk h3 => (md_k hk h3).trans (o2 p k hk h3)) fewer (by omega)
      refine ⟨V', r1, r2, r3, ?_⟩
      rw [rdS, if_neg c, ← wc1, ← wc3, show i + (1 + rdS (wN W) (gN W) n (wcS (mdW V (nI (grS (wN W) (gN W) (wcS V 1) (wcS V 3)))) 1) (wcS (mdW V (nI (grS (wN W) (gN W) (wcS V 1) (wcS V 3)))) 3)) = i + 1 + rdS (wN W) (gN W) n (wcS (mdW V (nI (grS (wN W) (gN W) (wcS V 1) (wcS V 3)))) 1) (wcS (mdW V (nI (grS (wN W) (gN W) (wcS V 1) (wcS V 3)))) 3) by omega]
      refine Eq.trans ?_ e
      rw [e_250_38]
      simp only [e_250_0, e_250_1, e_250_2, e_250_5, e_250_6, e_250_7, e_250_8, e_250_10, e_250_13, e_250_14, e_250_17, e_250_18, e_250_19, e_250_20, e_250_21, e_250_24, e_250_25, e_250_28, e_250_31, e_250_32, e_250_33, e_250_34, e_250_37, e_250_39, e_250_42, e_250_43, e_250_44, e_250_47, e_250_48, e_250_51, e_250_52, e_250_55, e_250_56, e_250_60, e_250_61, e_250_62, e_250_64, e_250_67, e_250_68, e_250_69, e_250_70, e_250_71, e_250_74, e_250_75, e_250_76, e_250_79, e_250_82, e_250_85, e_250_86, Option.bind_some, Option.bind_none, m_kt, m_kn, Option.toList_some, Option.toList_none, List.nil_append, List.cons_append, List.append_nil, ltn, ite_not, ↓reduceIte, true_or, or_true, nP1, oI_s, oI_n, bI_f, bI_t, i1_0, i0_0, Bool.false_eq_true, not_true_eq_false, not_false_eq_true, gz, HV.isc, me, H2.isc, re]
def hCw (h : mH) (f : Nat → Int32) : mH := (h.1.set 80 (aI 30 f), h.2)
theorem Mrounds_ev (O : mO) (d : Nat) (H : MS h m W) (R : rng W) (S : SH h) : MA (ev O (d + 6) 250 0 [.ref 66, mJ, mJ] [] h) h m 0 (.int (rdsV W)) := by
  have H0 := H.t 0
  have hN := pN_le R
  obtain ⟨f0, e80⟩ := (SH_tH S m 0).at (b := 80) (n := 30) (by decide)
  have h00 : hCw (tH h m 0) f0 = tH h m 0 := by unfold hCw; rw [hset e80]
  have H1 : ∀ f, MS (hCw (tH h m 0) f) (upd m 0 0) W := fun f => sc_MS (sc_set (by decide) f) H0
  have g : ∀ f, (hCw (tH h m 0) f).1[80]? = some (aI 30 f) := fun f => hget e80
  have s1 : ∀ f k x, k < 30 → m_si (hCw (tH h m 0) f) 80 (nI k) x = some (hCw (tH h m 0) (upd f k x)) := fun f k x hk => by
    rw [si_n (g f) hk (by decide)]; unfold hCw; rw [List.set_set]
  have e1 := lp_run (F := fun i f => ev O (d + 6) 250 7 [.ref 66, .int (nI i), mJ] [] (hCw (tH h m 0) f)) (f := fun i f => upd f i (W (7 + 6 * i + 3))) (n := 30) (fun i f hi => by
    have c1 : ¬ (30 : Int32) ≤ nI i := nI_ge (b := 30) hi (by omega)
    rw [e_250_7]
    simp only [e_250_0, e_250_1, e_250_2, e_250_5, e_250_6, e_250_8, e_250_10, e_250_13, e_250_14, e_250_17, e_250_18, e_250_19, e_250_20, e_250_21, e_250_24, e_250_25, e_250_28, e_250_31, e_250_32, e_250_33, e_250_34, e_250_37, e_250_38, e_250_39, e_250_42, e_250_43, e_250_44, e_250_47, e_250_48, e_250_51, e_250_52, e_250_55, e_250_56, e_250_59, e_250_60, e_250_61, e_250_62, e_250_64, e_250_67, e_250_68, e_250_69, e_250_70, e_250_71, e_250_74, e_250_75, e_250_76, e_250_79, e_250_82, e_250_85, e_250_86, Option.bind_some, Option.bind_none, m_kt, m_kn, Option.toList_some, Option.toList_none, List.nil_append, List.cons_append, List.append_nil, ltn, ite_not, ↓reduceIte, true_or, or_true, nP1, oI_s, oI_n, bI_f, bI_t, i1_0, i0_0, Bool.false_eq_true, not_true_eq_false, not_false_eq_true, c1, gM24 (H1 f).1, (H1 f).isc, of3_ev O (d + 5) (H1 f).w hi, s1 f i _ hi]) f0
  rw [h00] at e1
  have fe : ∀ i, i < 30 → lp (fun i f => upd f i (W (7 + 6 * i + 3))) 30 f0 i = W (7 + 6 * i + 3) := fun i hi => by rw [lp_upd, if_pos hi]
  generalize lp (fun i f => upd f i (W (7 + 6 * i + 3))) 30 f0 = F at *
  have HF := H1 F
  have cb : fb_ct (bt (wcS W 1)) 32 ≤ 30 := by
    have : fb_ct (bt (wcS W 1)) 32 = fb_ct (bt (wcS W 1)) 30 + fb_ct (fun k => bt (wcS W 1) (30 + k)) 2 := fb_ct_split _ 30 2
    rw [this, fb_ct_zero.mpr (fun k hk => sub_mono (sub_wc R 1) hN (30 + k) (by omega) (by omega))]
    have := fb_ct_le (bt (wcS W 1)) 30
    omega
  obtain ⟨V', r1, r2, r3, e2⟩ := mrd_loop O d HF R 30 0 W R (fun _ _ => rfl) (fun _ _ _ _ => rfl) cb (by omega)
  have hW0 : hT (hCw (tH h m 0) F) W = hCw (tH h m 0) F := by unfold hT; rw [hset HF.2]
  rw [hW0] at e2
  -- back
  have e3 := lp_run (F := fun i V => ev O (d + 6) 250 61 [.ref 66, .int (nI (0 + rdS (wN W) (gN W) 30 (wcS W 1) (wcS W 3))), .int (nI i)] [] (hT (hCw (tH h m 0) F) V)) (f := fun i V => upd V (7 + 6 * i + 3) (W (7 + 6 * i + 3))) (n := 30) (fun i V hi => by
    have c1 : ¬ (30 : Int32) ≤ nI i := nI_ge (b := 30) hi (by omega)
    have HV := HF.hT V
    have gv : (hT (hCw (tH h m 0) F) V).1[80]? = some (aI 30 F) := (hne (by decide)).trans (g F)
    have ga := ai_n gv hi (by decide)
    rw [fe i hi] at ga
    have se := sets_ev O (d + 5) HV hi (k := 3) (by omega) (W (7 + 6 * i + 3))
    rw [hT_hT] at se
    have se : ev O (d + 5) 159 0 [.ref 66, .int (nI i), .int 3, .int (W (7 + 6 * i + 3))] [] (hT (hCw (tH h m 0) F) V) = some (.inl none, hT (hCw (tH h m 0) F) (upd V (7 + 6 * i + 3) (W (7 + 6 * i + 3)))) := se
    rw [e_250_61]
    simp only [e_250_0, e_250_1, e_250_2, e_250_5, e_250_6, e_250_7, e_250_8, e_250_10, e_250_13, e_250_14, e_250_17, e_250_18, e_250_19, e_250_20, e_250_21, e_250_24, e_250_25, e_250_28, e_250_31, e_250_32, e_250_33, e_250_34, e_250_37, e_250_38, e_250_39, e_250_42, e_250_43, e_250_44, e_250_47, e_250_48, e_250_51, e_250_52, e_250_55, e_250_56, e_250_59, e_250_60, e_250_62, e_250_64, e_250_67, e_250_68, e_250_69, e_250_70, e_250_71, e_250_74, e_250_75, e_250_76, e_250_79, e_250_82, e_250_85, e_250_86, Option.bind_some, Option.bind_none, m_kt, m_kn, Option.toList_some, Option.toList_none, List.nil_append, List.cons_append, List.append_nil, ltn, ite_not, ↓reduceIte, true_or, or_true, nP1, oI_s, oI_n, bI_f, bI_t, i1_0, i0_0, Bool.false_eq_true, not_true_eq_false, not_false_eq_true, c1, gM24 HV.1, ga, HV.isc, se]) V'
  have back : lp (fun i V => upd V (7 + 6 * i + 3) (W (7 + 6 * i + 3))) 30 V' = W := by
    have gen : ∀ n, n ≤ 30 → ∀ j, lp (fun i V => upd V (7 + 6 * i + 3) (W (7 + 6 * i + 3))) n V' j = if (∃ p, p < n ∧ j = 7 + 6 * p + 3) then W j else V' j := by
      intro n
      induction n with
      | zero => intro _ j; rw [lp_0, if_neg (fun q => q.elim fun p q => by omega)]
      | succ n ih =>
        intro hn j
        rw [lp_s]
        by_cases z : j = 7 + 6 * n + 3
        · subst z; rw [pk_us, if_pos ⟨n, by omega, rfl⟩]
        · rw [pk_un z, ih (by omega)]
          congr 1
          apply propext
          constructor
          · rintro ⟨p, hp, q⟩; exact ⟨p, by omega, q⟩
          · rintro ⟨p, hp, q⟩
            have : p ≠ n := fun y => z (by rw [q, y])
            exact ⟨p, by omega, q⟩
    funext j
    rw [gen 30 (by omega)]
    split
    · rfl
    · rename_i q
      by_cases c : j < 7 ∨ 187 ≤ j
      · exact r2 j c
      · have ej : j = 7 + 6 * ((j - 7) / 6) + (j - 7) % 6 := by omega
        by_cases z : (j - 7) % 6 = 3
        · exact absurd ⟨(j - 7) / 6, by omega, by omega⟩ q
        · rw [ej]; exact r3 _ _ (by omega) z
  rw [back, hW0] at e3
  refine ⟨hCw (tH h m 0) F, ?_, sc_set (by decide) F⟩
  have re := roundNow_ev O d HF.w R
  simp only [nI_0] at e1 e2 e3
  simp only [e_250_0, e_250_1, e_250_2, e_250_5, e_250_6, e_250_8, e_250_10, e_250_13, e_250_14, e_250_17, e_250_18, e_250_19, e_250_20, e_250_21, e_250_24, e_250_25, e_250_28, e_250_31, e_250_32, e_250_33, e_250_34, e_250_37, e_250_39, e_250_42, e_250_43, e_250_44, e_250_47, e_250_48, e_250_51, e_250_52, e_250_55, e_250_56, e_250_60, e_250_62, e_250_64, e_250_67, e_250_68, e_250_69, e_250_70, e_250_71, e_250_74, e_250_75, e_250_76, e_250_79, e_250_82, e_250_85, e_250_86, Option.bind_some, Option.bind_none, m_kt, m_kn, Option.toList_some, Option.toList_none, List.nil_append, List.cons_append, List.append_nil, ltn, ite_not, ↓reduceIte, true_or, or_true, nP1, oI_s, oI_n, bI_f, bI_t, i1_0, i0_0, Bool.false_eq_true, not_true_eq_false, not_false_eq_true, pMt H]
  rw [e1, e_250_7]
  simp only [e_250_0, e_250_1, e_250_2, e_250_5, e_250_6, e_250_8, e_250_10, e_250_13, e_250_14, e_250_17, e_250_18, e_250_19, e_250_20, e_250_21, e_250_24, e_250_25, e_250_28, e_250_31, e_250_32, e_250_33, e_250_34, e_250_37, e_250_39, e_250_42, e_250_43, e_250_44, e_250_47, e_250_48, e_250_51, e_250_52, e_250_55, e_250_56, e_250_60, e_250_62, e_250_64, e_250_67, e_250_68, e_250_69, e_250_70, e_250_71, e_250_74, e_250_75, e_250_76, e_250_79, e_250_82, e_250_85, e_250_86, Option.bind_some, Option.bind_none, m_kt, m_kn, Option.toList_some, Option.toList_none, List.nil_append, List.cons_append, List.append_nil, ltn, ite_not, ↓reduceIte, true_or, or_true, nP1, oI_s, oI_n, bI_f, bI_t, i1_0, i0_0, Bool.false_eq_true, not_true_eq_false, not_false_eq_true, (show ((30 : Int32) ≤ nI 30) = True by decide), HF.isc, re]
  refine Eq.trans e2 ?_
  simp only [e_250_0, e_250_1, e_250_2, e_250_5, e_250_6, e_250_8, e_250_10, e_250_13, e_250_14, e_250_17, e_250_18, e_250_19, e_250_20, e_250_21, e_250_24, e_250_25, e_250_28, e_250_31, e_250_32, e_250_33, e_250_34, e_250_37, e_250_39, e_250_42, e_250_43, e_250_44, e_250_47, e_250_48, e_250_51, e_250_52, e_250_55, e_250_56, e_250_59, e_250_60, e_250_62, e_250_64, e_250_67, e_250_68, e_250_69, e_250_70, e_250_71, e_250_74, e_250_75, e_250_76, e_250_79, e_250_82, e_250_85, e_250_86, Option.bind_some, Option.bind_none, m_kt, m_kn, Option.toList_some, Option.toList_none, List.nil_append, List.cons_append, List.append_nil, ltn, ite_not, ↓reduceIte, true_or, or_true, nP1, oI_s, oI_n, bI_f, bI_t, i1_0, i0_0, Bool.false_eq_true, not_true_eq_false, not_false_eq_true]
  refine Eq.trans e3 ?_
  rw [e_250_61]
  simp only [e_250_0, e_250_1, e_250_2, e_250_5, e_250_6, e_250_8, e_250_10, e_250_13, e_250_14, e_250_17, e_250_18, e_250_19, e_250_20, e_250_21, e_250_24, e_250_25, e_250_28, e_250_31, e_250_32, e_250_33, e_250_34, e_250_37, e_250_39, e_250_42, e_250_43, e_250_44, e_250_47, e_250_48, e_250_51, e_250_52, e_250_55, e_250_56, e_250_59, e_250_60, e_250_62, e_250_64, e_250_67, e_250_68, e_250_69, e_250_70, e_250_71, e_250_74, e_250_75, e_250_76, e_250_79, e_250_82, e_250_85, e_250_86, Option.bind_some, Option.bind_none, m_kt, m_kn, Option.toList_some, Option.toList_none, List.nil_append, List.cons_append, List.append_nil, ltn, ite_not, ↓reduceIte, true_or, or_true, nP1, oI_s, oI_n, bI_f, bI_t, i1_0, i0_0, Bool.false_eq_true, not_true_eq_false, not_false_eq_true, (show ((30 : Int32) ≤ nI 30) = True by decide), Nat.zero_add]
  rfl
end MMends
