/-! The greatest round: the class; rounds -/
theorem isG_ex {C : Nat} (hC : C < 2 ^ 30) (ok : Nat → Bool) : ∃ R, isG C ok R := by
  have key : ∀ k u b, vl 32 C u ≤ k → wi u C → inM C ok u b → ∃ R, isG C ok R := by
    intro k
    induction k with
    | zero =>
      intro u b hk hu I
      have z : u = 0 := vl_inj hu (by unfold wi; rw [Nat.zero_and]) (by omega : C < 2 ^ 32) (by rw [vl_0]; omega)
      subst z
      exact ⟨b, I.1.elim .inl (fun q => .inr ⟨q.1, q.2.1⟩), I.2⟩
    | succ k ih =>
      intro u b hk hu I
      rcases Nat.eq_zero_or_pos u with z | z
      · subst z; exact ⟨b, I.1.elim .inl (fun q => .inr ⟨q.1, q.2.1⟩), I.2⟩
      · have vd := vl_dec 32 C u hu (by omega) z
        exact ih _ _ (by omega) (wi_and _ _) (inM_s hC hu z I)
  exact key _ C 0 (Nat.le_refl _) (by unfold wi; rw [Nat.and_self]) ⟨.inl rfl, fun s hs q _ => by have := wi_le hs; omega⟩
theorem grN_G {C : Nat} (hC : C < 2 ^ 30) (ok : Nat → Bool) : isG C ok (grN C ok) := by
  obtain ⟨R, h⟩ := isG_ex hC ok
  rw [grN_e h]; exact h
theorem sub_mono {n k : Nat} {s : Int32} (h : sub n s) (hk : n ≤ k) : sub k s := fun i hi q => h i hi (by omega)
theorem grS_in {w g : Nat} {cr br : Int32} (h : sub 30 cr) : grS w g cr br < 2 ^ 30 ∧ (∀ i, i < 32 → bt (nI (grS w g cr br)) i = true → bt cr i = true) := by
  have hC := uN_sub30 (sub_fsT h)
  have G := grN_G hC (okS w g br)
  unfold grS
  rcases G.1 with z | z
  · rw [z]
    exact ⟨by omega, fun i hi b => by rw [nI_0, b_0] at b; cases b⟩
  · have l := wi_le z.1
    refine ⟨by omega, fun i hi b => ?_⟩
    have := (wi_bt (by omega) (by omega)).mp z.1 i hi b
    rw [nI_uN, bt_fsT _ hi, Bool.and_eq_true] at this
    exact this.1
theorem shl_pow : ∀ k, k ≤ 10 → shl1 k = nI (2 ^ k) := by decide +kernel
section GreatC
variable {h : mH} {a : Nat} {W : WD}
theorem greatest_ev (O : mO) (d : Nat) (H : CA h a W) (R : rng W) {cr br : Int32} (hcr : sub (pN W) cr) : ev O (d + 2) 68 0 [.ref a, .int cr, .int br, mJ, mJ, mJ, mJ, mJ, mJ, mJ, mJ, mJ] [] h = some (.inl (some (.int (nI (grS (wN W) (gN W) cr br)))), h) := by
  have hN := pN_le R
  have hP := pN_pos R
  have hw := R.1.1.2
  have hg := R.1.2.1.2
  have hwg : wN W * gN W = pN W := rfl
  have sf : sub (wN W * gN W) (allI (wN W) (gN W) &&& (br ^^^ (-1))) := sub_and (sub_all (by omega))
  have hC := uN_sub30 (sub_fsT (sub_mono hcr hN))
  have okm : ∀ u, okS (wN W) (gN W) br u = true → wyB (wN W) (gN W) (allI (wN W) (gN W) &&& (br ^^^ (-1))) = true := fun u q => wy_mono (by omega) (by omega) hw.1 hN (sub_and sf) sf (by omega) (fun i hi b => by rw [b_and, Bool.and_eq_true] at b; exact b.1) q
  cases c0 : wyB (wN W) (gN W) (allI (wN W) (gN W) &&& (br ^^^ (-1)))
  · have e : grS (wN W) (gN W) cr br = 0 := grN_e ⟨.inl rfl, fun s hs h0 q => by rw [okm s q] at c0; cases c0⟩
    rw [e]
    simp only [e_68_0, e_68_1, e_68_4, e_68_5, e_68_6, e_68_7, e_68_8, e_68_9, e_68_10, e_68_11, e_68_14, e_68_17, e_68_18, e_68_19, e_68_20, e_68_21, e_68_22, e_68_25, e_68_26, e_68_27, e_68_28, e_68_29, e_68_31, e_68_32, e_68_34, e_68_37, e_68_39, e_68_40, e_68_41, e_68_42, e_68_44, e_68_45, e_68_47, e_68_50, e_68_51, e_68_53, e_68_54, e_68_56, e_68_57, e_68_59, e_68_60, e_68_62, e_68_63, e_68_67, e_68_69, e_68_72, e_68_74, e_68_76, e_68_77, e_68_79, e_68_80, e_68_82, e_68_84, e_68_87, e_68_89, e_68_91, e_68_93, e_68_96, e_68_97, e_68_98, e_68_100, e_68_101, e_68_102, e_68_103, e_68_106, e_68_109, e_68_111, e_68_113, e_68_115, e_68_117, e_68_120, e_68_123, e_68_125, Option.bind_some, Option.bind_none, m_kt, m_kn, Option.toList_some, Option.toList_none, List.nil_append, List.cons_append, List.append_nil, ltn, ite_not, ↓reduceIte, true_or, or_true, nP1, oI_s, oI_n, bI_f, bI_t, i1_0, i0_0, Bool.false_eq_true, not_true_eq_false, not_false_eq_true, nI_0, m1m1, Nat.one_ne_zero, two_ne0, gC3 H, isWay_ev O d H R, c0]
  · have hl : (1 : Int32) <<< ((nI (pN W) - 1) &&& 31) = shl1 (pN W - 1) := by rw [n_1, pk_sub hP]; rfl
    -- the choice
    have hch : ∀ i, i < 32 → bt (fsT cr &&& ((1 ||| shl1 (pN W - 1)) ^^^ (-1))) i = (bt (fsT cr) i && !decide (i = 0) && !decide (i = pN W - 1)) := fun i hi => by
      have e1 : ∀ j, j < 32 → bt (1 : Int32) j = decide (j = 0) := by decide +kernel
      rw [b_and, bt_not _ hi, b_or, e1 i hi, bt_shl1 (by omega) hi]
      cases bt (fsT cr) i <;> cases decide (i = 0) <;> cases decide (i = pN W - 1) <;> rfl
    have sch : sub 30 (fsT cr &&& ((1 ||| shl1 (pN W - 1)) ^^^ (-1))) := sub_and (sub_fsT (sub_mono hcr hN))
    have cch : ct (fsT cr &&& ((1 ||| shl1 (pN W - 1)) ^^^ (-1))) ≤ 10 := by
      have := ct_fsT cr
      have l : ct (fsT cr &&& ((1 ||| shl1 (pN W - 1)) ^^^ (-1))) ≤ ct (fsT cr) := fb_ct_sub (fun i hi b => by rw [b_and, Bool.and_eq_true] at b; exact b.1)
      omega
    have hch0 := uN_sub30 sch
    generalize hce : fsT cr &&& ((1 ||| shl1 (pN W - 1)) ^^^ (-1)) = ch at *
    have inc : ∀ s, wi s (uN (fsT cr)) → okS (wN W) (gN W) br s = true → wi s (uN ch) := fun s hs q => by
      have l := wi_le hs
      rw [wi_bt (by omega) (by omega)] at hs ⊢
      intro i hi b
      have b1 := hs i hi b
      rw [nI_uN] at b1 ⊢
      have ends := wy_ends (show 1 ≤ wN W * gN W by omega) hN q
      obtain ⟨en0, en1⟩ := ends
      rw [b_and, bt_not _ (by omega), Bool.and_eq_true] at en0 en1
      rw [hch i hi, b1]
      have n0 : ¬ i = 0 := fun z => by subst z; rw [b] at en0; simp at en0
      have n1 : ¬ i = pN W - 1 := fun z => by rw [z] at b; rw [hwg, b] at en1; simp at en1
      simp [n0, n1]
    have toG : ∀ b, isG (uN ch) (okS (wN W) (gN W) br) b → grS (wN W) (gN W) cr br = b := fun b G => grN_e ⟨G.1.elim .inl (fun q => .inr ⟨by
        have l := wi_le q.1
        have := q.1
        rw [wi_bt (by omega) (by omega)] at this ⊢
        intro i hi bb
        have := this i hi bb
        rw [nI_uN] at this ⊢
        rw [hch i hi, Bool.and_eq_true, Bool.and_eq_true] at this
        exact this.1.1, q.2⟩), fun s hs h0 q => G.2 s (inc s hs q) h0 q⟩
    have hpw : vl 32 (uN ch) (uN ch) + 1 = 2 ^ ct ch := by rw [vl_all 32 _ (by omega), pw_ct]; rfl
    have pl : 2 ^ ct ch ≤ 2 ^ 10 := Nat.pow_le_pow_right (by omega) cch
    have key : ∀ k i u b v, i + k = 2 ^ ct ch → vl 32 (uN ch) u + 1 = i → wi u (uN ch) → inK (uN ch) (okS (wN W) (gN W) br) u b → ev O (d + 2) 68 65 [.ref a, .int cr, .int br, .int (allI (wN W) (gN W) &&& (br ^^^ (-1))), .int (1 ||| shl1 (pN W - 1)), .int ch, .int (nI (2 ^ ct ch)), .int (nI b), .int (nI (sz b)), .int (nI u), .int (nI i), v] [] h = some (.inl (some (.int (nI (grS (wN W) (gN W) cr br)))), h) := by
      intro k
      induction k with
      | zero =>
        intro i u b v hi hv hu I
        have : i = 2 ^ ct ch := by omega
        have ue : u = uN ch := vl_inj hu (by unfold wi; rw [Nat.and_self]) (by omega : uN ch < 2 ^ 32) (by omega)
        subst ue
        have G : isG (uN ch) (okS (wN W) (gN W) br) b := ⟨I.1.elim .inl (fun q => .inr ⟨q.1, q.2.1⟩), fun s hs h0 q => I.2 s hs h0 (wi_le hs) q⟩
        rw [toG b G, this, e_68_65]
        simp only [e_68_0, e_68_1, e_68_4, e_68_5, e_68_6, e_68_7, e_68_8, e_68_9, e_68_10, e_68_11, e_68_14, e_68_17, e_68_18, e_68_19, e_68_20, e_68_21, e_68_22, e_68_25, e_68_26, e_68_27, e_68_28, e_68_29, e_68_31, e_68_32, e_68_34, e_68_37, e_68_39, e_68_40, e_68_41, e_68_42, e_68_44, e_68_45, e_68_47, e_68_50, e_68_51, e_68_53, e_68_54, e_68_56, e_68_57, e_68_59, e_68_60, e_68_62, e_68_63, e_68_67, e_68_69, e_68_72, e_68_74, e_68_76, e_68_77, e_68_79, e_68_80, e_68_82, e_68_84, e_68_87, e_68_89, e_68_91, e_68_93, e_68_96, e_68_97, e_68_98, e_68_100, e_68_101, e_68_102, e_68_103, e_68_106, e_68_109, e_68_111, e_68_113, e_68_115, e_68_117, e_68_120, e_68_123, e_68_125, Option.bind_some, Option.bind_none, m_kt, m_kn, Option.toList_some, Option.toList_none, List.nil_append, List.cons_append, List.append_nil, ltn, ite_not, ↓reduceIte, true_or, or_true, nP1, oI_s, oI_n, bI_f, bI_t, i1_0, i0_0, Bool.false_eq_true, not_true_eq_false, not_false_eq_true, Int32.le_refl]
      | succ k ih =>
        intro i u b v hi hv hu I
        have ul := wi_le hu
        have hlt : u < uN ch := by
          rcases Nat.lt_or_ge u (uN ch) with z | z
          · exact z
          · have : u = uN ch := by omega
            subst this; omega
        obtain ⟨I', lt'⟩ := inK_s hch0 hu hlt I
        have vi := vl_inc 32 (uN ch) u hu (by omega) hlt
        have wn := wi_and (u + 2 ^ 32 - uN ch) (uN ch)
        have nl := wi_le wn
        have h1 : ¬ nI (2 ^ ct ch) ≤ nI i := nI_ge (by omega) (by omega)
        have en : (nI u - ch) &&& ch = nI ((u + 2 ^ 32 - uN ch) &&& uN ch) := by
          rw [← nI_uN ((nI u - ch) &&& ch), uN_and]
          have : uN (nI u - ch) = u + 2 ^ 32 - uN ch := by
            unfold uN at *
            rw [Int32.toBitVec_sub, BitVec.toNat_sub]
            have e : (nI u).toBitVec.toNat = u := uN_nI (by omega)
            rw [e]
            omega
          rw [this]
        generalize (u + 2 ^ 32 - uN ch) &&& uN ch = n at *
        have sl := ct_le (nI n)
        have sb := ct_le (nI b)
        have e1 : (nI (ct (nI n)) ≤ nI (sz b)) = (sz n ≤ sz b) := by
          have : sz b = ct (nI b) := rfl
          rw [nLe (by omega) (by omega)]; rfl
        have ok : wyB (wN W) (gN W) ((allI (wN W) (gN W) &&& (br ^^^ (-1))) &&& (nI n ^^^ (-1))) = okS (wN W) (gN W) br n := rfl
        rw [e_68_65]
        by_cases c1 : sz n ≤ sz b
        · rw [if_neg (fun q => by omega)] at I'
          rw [← ih (i + 1) n b (.int (nI (ct (nI n)))) (by omega) (by omega) wn I']
          simp only [e_68_0, e_68_1, e_68_4, e_68_5, e_68_6, e_68_7, e_68_8, e_68_9, e_68_10, e_68_11, e_68_14, e_68_17, e_68_18, e_68_19, e_68_20, e_68_21, e_68_22, e_68_25, e_68_26, e_68_27, e_68_28, e_68_29, e_68_31, e_68_32, e_68_34, e_68_37, e_68_39, e_68_40, e_68_41, e_68_42, e_68_44, e_68_45, e_68_47, e_68_50, e_68_51, e_68_53, e_68_54, e_68_56, e_68_57, e_68_59, e_68_60, e_68_62, e_68_63, e_68_67, e_68_69, e_68_72, e_68_74, e_68_76, e_68_77, e_68_79, e_68_80, e_68_82, e_68_84, e_68_87, e_68_89, e_68_91, e_68_93, e_68_96, e_68_97, e_68_98, e_68_100, e_68_101, e_68_102, e_68_103, e_68_106, e_68_109, e_68_111, e_68_113, e_68_115, e_68_117, e_68_120, e_68_123, e_68_125, Option.bind_some, Option.bind_none, m_kt, m_kn, Option.toList_some, Option.toList_none, List.nil_append, List.cons_append, List.append_nil, ltn, ite_not, ↓reduceIte, true_or, or_true, nP1, oI_s, oI_n, bI_f, bI_t, i1_0, i0_0, Bool.false_eq_true, not_true_eq_false, not_false_eq_true, h1, en, bitCount_ev, bc_ct, e1, c1]
        · cases c2 : okS (wN W) (gN W) br n
          · rw [if_neg (fun q => by rw [c2] at q; cases q.2)] at I'
            rw [← ih (i + 1) n b (.int (nI (ct (nI n)))) (by omega) (by omega) wn I']
            simp only [e_68_0, e_68_1, e_68_4, e_68_5, e_68_6, e_68_7, e_68_8, e_68_9, e_68_10, e_68_11, e_68_14, e_68_17, e_68_18, e_68_19, e_68_20, e_68_21, e_68_22, e_68_25, e_68_26, e_68_27, e_68_28, e_68_29, e_68_31, e_68_32, e_68_34, e_68_37, e_68_39, e_68_40, e_68_41, e_68_42, e_68_44, e_68_45, e_68_47, e_68_50, e_68_51, e_68_53, e_68_54, e_68_56, e_68_57, e_68_59, e_68_60, e_68_62, e_68_63, e_68_67, e_68_69, e_68_72, e_68_74, e_68_76, e_68_77, e_68_79, e_68_80, e_68_82, e_68_84, e_68_87, e_68_89, e_68_91, e_68_93, e_68_96, e_68_97, e_68_98, e_68_100, e_68_101, e_68_102, e_68_103, e_68_106, e_68_109, e_68_111, e_68_113, e_68_115, e_68_117, e_68_120, e_68_123, e_68_125, Option.bind_some, Option.bind_none, m_kt, m_kn, Option.toList_some, Option.toList_none, List.nil_append, List.cons_append, List.append_nil, ltn, ite_not, ↓reduceIte, true_or, or_true, nP1, oI_s, oI_n, bI_f, bI_t, i1_0, i0_0, Bool.false_eq_true, not_true_eq_false, not_false_eq_true, h1, en, bitCount_ev, bc_ct, e1, c1, isWay_ev O d H R, ok, c2]
          · rw [if_pos ⟨by omega, c2⟩] at I'
            rw [← ih (i + 1) n n (.int (nI (ct (nI n)))) (by omega) (by omega) wn I']
            simp only [e_68_0, e_68_1, e_68_4, e_68_5, e_68_6, e_68_7, e_68_8, e_68_9, e_68_10, e_68_11, e_68_14, e_68_17, e_68_18, e_68_19, e_68_20, e_68_21, e_68_22, e_68_25, e_68_26, e_68_27, e_68_28, e_68_29, e_68_31, e_68_32, e_68_34, e_68_37, e_68_39, e_68_40, e_68_41, e_68_42, e_68_44, e_68_45, e_68_47, e_68_50, e_68_51, e_68_53, e_68_54, e_68_56, e_68_57, e_68_59, e_68_60, e_68_62, e_68_63, e_68_67, e_68_69, e_68_72, e_68_74, e_68_76, e_68_77, e_68_79, e_68_80, e_68_82, e_68_84, e_68_87, e_68_89, e_68_91, e_68_93, e_68_96, e_68_97, e_68_98, e_68_100, e_68_101, e_68_102, e_68_103, e_68_106, e_68_109, e_68_111, e_68_113, e_68_115, e_68_117, e_68_120, e_68_123, e_68_125, Option.bind_some, Option.bind_none, m_kt, m_kn, Option.toList_some, Option.toList_none, List.nil_append, List.cons_append, List.append_nil, ltn, ite_not, ↓reduceIte, true_or, or_true, nP1, oI_s, oI_n, bI_f, bI_t, i1_0, i0_0, Bool.false_eq_true, not_true_eq_false, not_false_eq_true, h1, en, bitCount_ev, bc_ct, e1, c1, isWay_ev O d H R, ok, c2]
            rfl
    have p1 : 1 ≤ 2 ^ ct ch := Nat.one_le_two_pow
    have e := key (2 ^ ct ch - 1) 1 0 0 mJ (by omega) (by rw [vl_0]) (by unfold wi; rw [Nat.zero_and]) ⟨.inl rfl, fun s hs h0 q _ => by omega⟩
    rw [sz_0] at e
    simp only [nI_0, show nI 1 = 1 from rfl] at e
    have hsh : shl1 (ct ch) = nI (2 ^ ct ch) := shl_pow _ cch
    simp only [e_68_0, e_68_1, e_68_4, e_68_5, e_68_6, e_68_7, e_68_8, e_68_9, e_68_10, e_68_11, e_68_14, e_68_17, e_68_18, e_68_19, e_68_20, e_68_21, e_68_22, e_68_25, e_68_26, e_68_27, e_68_28, e_68_29, e_68_31, e_68_32, e_68_34, e_68_37, e_68_39, e_68_40, e_68_41, e_68_42, e_68_44, e_68_45, e_68_47, e_68_50, e_68_51, e_68_53, e_68_54, e_68_56, e_68_57, e_68_59, e_68_60, e_68_62, e_68_63, e_68_67, e_68_69, e_68_72, e_68_74, e_68_76, e_68_77, e_68_79, e_68_80, e_68_82, e_68_84, e_68_87, e_68_89, e_68_91, e_68_93, e_68_96, e_68_97, e_68_98, e_68_100, e_68_101, e_68_102, e_68_103, e_68_106, e_68_109, e_68_111, e_68_113, e_68_115, e_68_117, e_68_120, e_68_123, e_68_125, Option.bind_some, Option.bind_none, m_kt, m_kn, Option.toList_some, Option.toList_none, List.nil_append, List.cons_append, List.append_nil, ltn, ite_not, ↓reduceIte, true_or, or_true, nP1, oI_s, oI_n, bI_f, bI_t, i1_0, i0_0, Bool.false_eq_true, not_true_eq_false, not_false_eq_true, gC3 H, gC2 H, isWay_ev O d H R, c0, hl, firstOf_ev, hce, bitCount_ev, bc_ct, shl_nI, hsh]
    exact e
noncomputable def rdS (w g : Nat) : Nat → Int32 → Int32 → Nat
  | 0, _, _ => 0
  | n + 1, cr, br => if grS w g cr br = 0 then 0 else 1 + rdS w g n (cr &&& (nI (grS w g cr br) ^^^ (-1))) (br &&& (nI (grS w g cr br) ^^^ (-1)))
theorem countRounds_ev (O : mO) (d : Nat) (H : CA h a W) (R : rng W) : ev O (d + 3) 70 0 [.ref a, mJ, mJ, mJ, mJ] [] h = some (.inl (some (.int (nI (rdS (wN W) (gN W) 30 (wcS W 1) (wcS W 3))))), h) := by
  have hN := pN_le R
  have key : ∀ k i cr br v, i + k = 30 → sub (pN W) cr → ev O (d + 3) 70 14 [.ref a, .int cr, .int br, .int (nI i), v] [] h = some (.inl (some (.int (nI (i + rdS (wN W) (gN W) k cr br)))), h) := by
    intro k
    induction k with
    | zero =>
      intro i cr br v hi hs
      have : i = 30 := by omega
      subst this
      rw [e_70_14]
      simp only [e_70_0, e_70_1, e_70_2, e_70_5, e_70_6, e_70_7, e_70_8, e_70_11, e_70_12, e_70_13, e_70_15, e_70_17, e_70_20, e_70_21, e_70_22, e_70_23, e_70_26, e_70_28, e_70_30, e_70_33, e_70_34, e_70_35, e_70_36, e_70_38, e_70_39, e_70_40, e_70_41, e_70_42, e_70_43, e_70_45, e_70_46, e_70_47, e_70_48, e_70_49, e_70_52, e_70_55, e_70_57, Option.bind_some, Option.bind_none, m_kt, m_kn, Option.toList_some, Option.toList_none, List.nil_append, List.cons_append, List.append_nil, ltn, ite_not, ↓reduceIte, true_or, or_true, nP1, oI_s, oI_n, bI_f, bI_t, i1_0, i0_0, Bool.false_eq_true, not_true_eq_false, not_false_eq_true, (show ((30 : Int32) ≤ nI 30) = True by decide)]
      rfl
    | succ k ih =>
      intro i cr br v hi hs
      have h1 : ¬ (30 : Int32) ≤ nI i := nI_ge (b := 30) (by omega) (by omega)
      have gi := grS_in (w := wN W) (g := gN W) (br := br) (sub_mono hs hN)
      rw [e_70_14, rdS]
      by_cases c : grS (wN W) (gN W) cr br = 0
      · simp only [e_70_0, e_70_1, e_70_2, e_70_5, e_70_6, e_70_7, e_70_8, e_70_11, e_70_12, e_70_13, e_70_15, e_70_17, e_70_20, e_70_21, e_70_22, e_70_23, e_70_26, e_70_28, e_70_30, e_70_33, e_70_34, e_70_35, e_70_36, e_70_38, e_70_39, e_70_40, e_70_41, e_70_42, e_70_43, e_70_45, e_70_46, e_70_47, e_70_48, e_70_49, e_70_52, e_70_55, e_70_57, Option.bind_some, Option.bind_none, m_kt, m_kn, Option.toList_some, Option.toList_none, List.nil_append, List.cons_append, List.append_nil, ltn, ite_not, ↓reduceIte, true_or, or_true, nP1, oI_s, oI_n, bI_f, bI_t, i1_0, i0_0, Bool.false_eq_true, not_true_eq_false, not_false_eq_true, nI_0, m1m1, Nat.one_ne_zero, two_ne0, h1, greatest_ev O d H R hs, c, Nat.add_zero]
      · have cz : (nI (grS (wN W) (gN W) cr br) = 0) = False := eq_false (nI_ne0 (by omega) (by omega))
        rw [if_neg c, show i + (1 + rdS (wN W) (gN W) k (cr &&& (nI (grS (wN W) (gN W) cr br) ^^^ (-1))) (br &&& (nI (grS (wN W) (gN W) cr br) ^^^ (-1)))) = (i + 1) + rdS (wN W) (gN W) k (cr &&& (nI (grS (wN W) (gN W) cr br) ^^^ (-1))) (br &&& (nI (grS (wN W) (gN W) cr br) ^^^ (-1))) by omega]
        rw [← ih (i + 1) _ _ (.int (nI (grS (wN W) (gN W) cr br))) (by omega) (sub_and hs)]
        simp only [e_70_0, e_70_1, e_70_2, e_70_5, e_70_6, e_70_7, e_70_8, e_70_11, e_70_12, e_70_13, e_70_15, e_70_17, e_70_20, e_70_21, e_70_22, e_70_23, e_70_26, e_70_28, e_70_30, e_70_33, e_70_34, e_70_35, e_70_36, e_70_38, e_70_39, e_70_40, e_70_41, e_70_42, e_70_43, e_70_45, e_70_46, e_70_47, e_70_48, e_70_49, e_70_52, e_70_55, e_70_57, Option.bind_some, Option.bind_none, m_kt, m_kn, Option.toList_some, Option.toList_none, List.nil_append, List.cons_append, List.append_nil, ltn, ite_not, ↓reduceIte, true_or, or_true, nP1, oI_s, oI_n, bI_f, bI_t, i1_0, i0_0, Bool.false_eq_true, not_true_eq_false, not_false_eq_true, h1, greatest_ev O d H R hs, cz]
  have e := key 30 0 (wcS W 1) (wcS W 3) mJ (by omega) (by rw [wcS_bs]; exact sub_bs (Nat.le_refl _) (by omega) _)
  simp only [nI_0, Nat.zero_add] at e
  simp only [e_70_0, e_70_1, e_70_2, e_70_5, e_70_6, e_70_7, e_70_8, e_70_11, e_70_12, e_70_13, e_70_15, e_70_17, e_70_20, e_70_21, e_70_22, e_70_23, e_70_26, e_70_28, e_70_30, e_70_33, e_70_34, e_70_35, e_70_36, e_70_38, e_70_39, e_70_40, e_70_41, e_70_42, e_70_43, e_70_45, e_70_46, e_70_47, e_70_48, e_70_49, e_70_52, e_70_55, e_70_57, Option.bind_some, Option.bind_none, m_kt, m_kn, Option.toList_some, Option.toList_none, List.nil_append, List.cons_append, List.append_nil, ltn, ite_not, ↓reduceIte, true_or, or_true, nP1, oI_s, oI_n, bI_f, bI_t, i1_0, i0_0, Bool.false_eq_true, not_true_eq_false, not_false_eq_true, H.isc, withCracks_ev O (d + 2) H R]
  exact e
end GreatC
section MendG
variable {h : mH} {g : gT} {W : WD}
noncomputable def rouV (W : WD) : Int32 := nI (grS (wN W) (gN W) (wcS W 1) (wcS W 3))
theorem sub_wc {W : WD} (R : rng W) (l : Int32) : sub (pN W) (wcS W l) := by
  have hN := pN_le R
  rw [wcS_bs]; exact sub_bs (Nat.le_refl _) (by omega) _
theorem Gmay_ev (O : mO) (d : Nat) (C : CG h g W) (x : Int32) : GA (ev O (d + 2) 133 0 [.ref 0, .int x] [] h) h none (.int (bI (okS (wN W) (gN W) (wcS W 3) (uN x)))) := by
  obtain ⟨G, H, ga, R, S⟩ := C
  refine ⟨h, ?_, sc.rf h⟩
  unfold okS
  rw [nI_uN]
  simp only [e_133_0, e_133_1, e_133_4, e_133_5, e_133_8, e_133_11, e_133_12, e_133_15, e_133_16, e_133_19, e_133_20, e_133_21, e_133_22, e_133_23, e_133_24, e_133_25, e_133_26, e_133_29, Option.bind_some, Option.bind_none, m_kt, m_kn, Option.toList_some, Option.toList_none, List.nil_append, List.cons_append, List.append_nil, ltn, ite_not, ↓reduceIte, true_or, or_true, nP1, oI_s, oI_n, bI_f, bI_t, i1_0, i0_0, Bool.false_eq_true, not_true_eq_false, not_false_eq_true, gG0 G, gC3 H, H.isc, withCracks_ev O (d + 1) H R, isWay_ev O d H R, bI_01]
theorem Ground_ev (O : mO) (d : Nat) (C : CG h g W) : GA (ev O (d + 3) 134 0 [.ref 0] [] h) h none (.int (rouV W)) := by
  obtain ⟨G, H, ga, R, S⟩ := C
  refine ⟨h, ?_, sc.rf h⟩
  simp only [e_134_0, e_134_1, e_134_4, e_134_5, e_134_8, e_134_9, e_134_12, e_134_13, e_134_16, e_134_17, e_134_20, e_134_23, Option.bind_some, Option.bind_none, m_kt, m_kn, Option.toList_some, Option.toList_none, List.nil_append, List.cons_append, List.append_nil, ltn, ite_not, ↓reduceIte, true_or, or_true, nP1, oI_s, oI_n, bI_f, bI_t, i1_0, i0_0, Bool.false_eq_true, not_true_eq_false, not_false_eq_true, gG0 G, H.isc, withCracks_ev O (d + 2) H R, greatest_ev O d H R (sub_wc R 1)]
  rfl
noncomputable def rdsV (W : WD) : Int32 := nI (rdS (wN W) (gN W) 30 (wcS W 1) (wcS W 3))
theorem Grounds_ev (O : mO) (d : Nat) (C : CG h g W) : GA (ev O (d + 4) 136 0 [.ref 0] [] h) h none (.int (rdsV W)) := by
  obtain ⟨G, H, ga, R, S⟩ := C
  refine ⟨h, ?_, sc.rf h⟩
  simp only [e_136_0, e_136_1, e_136_4, e_136_7, Option.bind_some, Option.bind_none, m_kt, m_kn, Option.toList_some, Option.toList_none, List.nil_append, List.cons_append, List.append_nil, ltn, ite_not, ↓reduceIte, true_or, or_true, nP1, oI_s, oI_n, bI_f, bI_t, i1_0, i0_0, Bool.false_eq_true, not_true_eq_false, not_false_eq_true, gG0 G, countRounds_ev O d H R]
  rfl
end MendG
section MendM
variable {h : mH} {m : Nat → Int32} {W : WD}
theorem Mmay_ev (O : mO) (d : Nat) (H : MS h m W) (R : rng W) (x : Int32) : MA (ev O (d + 5) 245 0 [.ref 66, .int x] [] h) h m 0 (.int (bI (okS (wN W) (gN W) (wcS W 3) (uN x)))) := by
  have H0 := H.t 0
  refine ⟨tH h m 0, ?_, sc.rf _⟩
  simp only [e_245_0, e_245_1, e_245_2, e_245_5, e_245_6, e_245_7, e_245_10, Option.bind_some, Option.bind_none, m_kt, m_kn, Option.toList_some, Option.toList_none, List.nil_append, List.cons_append, List.append_nil, ltn, ite_not, ↓reduceIte, true_or, or_true, nP1, oI_s, oI_n, bI_f, bI_t, i1_0, i0_0, Bool.false_eq_true, not_true_eq_false, not_false_eq_true, pMt H, H0.isc, mayClose_ev O d H0.w R, bI_01]
theorem Mround_ev (O : mO) (d : Nat) (H : MS h m W) (R : rng W) : MA (ev O (d + 6) 247 0 [.ref 66] [] h) h m 0 (.int (rouV W)) := by
  have H0 := H.t 0
  refine ⟨tH h m 0, ?_, sc.rf _⟩
  simp only [e_247_0, e_247_1, e_247_2, e_247_5, e_247_6, e_247_9, Option.bind_some, Option.bind_none, m_kt, m_kn, Option.toList_some, Option.toList_none, List.nil_append, List.cons_append, List.append_nil, ltn, ite_not, ↓reduceIte, true_or, or_true, nP1, oI_s, oI_n, bI_f, bI_t, i1_0, i0_0, Bool.false_eq_true, not_true_eq_false, not_false_eq_true, pMt H, H0.isc, roundNow_ev O d H0.w R]
  rfl
end MendM
