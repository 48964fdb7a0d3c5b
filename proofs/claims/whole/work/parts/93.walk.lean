/-! Loops once more; ways by hours: the reference -/
theorem fd_runJ {ρ ν : Type} {F : Nat → ν → ρ} {c : Nat → Bool} {n : Nat} {E : Nat → ρ → Prop} (J : Nat → ν → Prop) (h : ∀ i v, i < n → J i v → (c i = true → E i (F i v)) ∧ (c i = false → ∃ v', J (i + 1) v' ∧ F i v = F (i + 1) v')) (v : ν) (hv : J 0 v) : (∃ i, fd c n = some i ∧ E i (F 0 v)) ∨ (fd c n = none ∧ ∃ v', J n v' ∧ F 0 v = F n v') := by
  induction n with
  | zero => exact .inr ⟨rfl, v, hv, rfl⟩
  | succ n ih =>
    have e2 : fd c (n + 1) = match fd c n with
      | some i => some i
      | none => if c n = true then some n else none := rfl
    rw [e2]
    rcases ih (fun i v hi => h i v (by omega)) with ⟨i, e, q⟩ | ⟨e, v1, j1, q⟩
    · exact .inl ⟨i, by rw [e], q⟩
    · rw [e]
      obtain ⟨a, b⟩ := h n v1 (by omega) j1
      cases hc : c n with
      | true => exact .inl ⟨n, by simp, by rw [q]; exact a hc⟩
      | false =>
        obtain ⟨v2, j2, z⟩ := b hc
        exact .inr ⟨by simp, v2, j2, q.trans z⟩
theorem lp_runJ {σ ρ ν : Type} {F : Nat → σ → ν → ρ} {f : Nat → σ → σ} {n : Nat} (J : Nat → σ → ν → Prop) (h : ∀ i s v, i < n → J i s v → ∃ v', J (i + 1) (f i s) v' ∧ F i s v = F (i + 1) (f i s) v') (s : σ) (v : ν) (h0 : J 0 s v) : ∃ v', J n (lp f n s) v' ∧ F 0 s v = F n (lp f n s) v' := by
  induction n with
  | zero => exact ⟨v, h0, rfl⟩
  | succ n ih =>
    obtain ⟨v1, j1, e1⟩ := ih (fun i s v hi => h i s v (by omega))
    obtain ⟨v2, j2, e2⟩ := h n (lp f n s) v1 (by omega) j1
    exact ⟨v2, j2, e1.trans e2⟩
def hdS (W : WD) (hr wt : Int32) : Int32 := bs (pN W) (fun p => hlB W p hr wt)
/-- the sets that can be come to, hour by hour -/
def rcS (w g : Nat) (hd : Nat → Int32) (fr : Nat) : Nat → Int32
  | 0 => hd 0 &&& shl1 fr
  | t + 1 => arS w g (rcS w g hd fr t) &&& hd (t + 1)
def hoS (w g : Nat) (hd : Nat → Int32) (fr to : Nat) : Option Nat := fd (fun t => bt (rcS w g hd fr t) to) 49
def hdT (W : WD) (st : Nat) (wt : Int32) : Nat → Int32 := fun t => hdS W (nI ((st + t) % 24)) wt
theorem sub_rc {w g : Nat} {hd : Nat → Int32} {fr : Nat} (hs : ∀ t, sub (w * g) (hd t)) : ∀ t, sub (w * g) (rcS w g hd fr t)
  | 0 => sub_and (hs 0)
  | t + 1 => sub_and' (hs (t + 1))
theorem sub_hd (W : WD) (R : rng W) (hr wt : Int32) : sub (wN W * gN W) (hdS W hr wt) := sub_bs (n := pN W) (Nat.le_refl _) (by have := pN_le R; omega) _
def arI (w g p : Nat) : Nat → Int32 → Int32 := fun k b => b ||| (bes w g p k).elim 0 shl1
def arO (w g : Nat) (s : Int32) : Nat → Int32 → Int32 := fun p b => if bt s p = true then lp (arI w g p) 4 b else b
theorem bt_arI {w g p : Nat} (hw : 1 ≤ w) (hp : p < w * g) (hN : w * g ≤ 30) {i : Nat} (hi : i < 32) (b : Int32) : ∀ n, bt (lp (arI w g p) n b) i = true ↔ bt b i = true ∨ ∃ k, k < n ∧ bes w g p k = some i
  | 0 => by simp [lp_0]
  | n + 1 => by
    rw [lp_s, arI, b_or, Bool.or_eq_true, bt_arI hw hp hN hi b n]
    have : bt ((bes w g p n).elim 0 shl1) i = true ↔ bes w g p n = some i := by
      cases e : bes w g p n with
      | none => simp only [Option.elim_none, b_0]; simp
      | some q =>
        have := bes_lt hw hp e
        simp only [Option.elim_some]
        rw [bt_shl1 (by omega) hi, decide_eq_true_eq]
        constructor
        · intro h; rw [h]
        · intro h; exact (Option.some.inj h).symm
    rw [this]
    constructor
    · rintro ((h | ⟨k, hk, e⟩) | e)
      · exact .inl h
      · exact .inr ⟨k, by omega, e⟩
      · exact .inr ⟨n, by omega, e⟩
    · rintro (h | ⟨k, hk, e⟩)
      · exact .inl (.inl h)
      · rcases Nat.lt_or_ge k n with z | z
        · exact .inl (.inr ⟨k, z, e⟩)
        · have : k = n := by omega
          subst this
          exact .inr e
theorem bt_arO {w g : Nat} (hw : 1 ≤ w) (hN : w * g ≤ 30) (s : Int32) {i : Nat} (hi : i < 32) : ∀ n, n ≤ w * g → (bt (lp (arO w g s) n s) i = true ↔ bt s i = true ∨ ∃ p, p < n ∧ bt s p = true ∧ ∃ k, k < 4 ∧ bes w g p k = some i)
  | 0, _ => by simp [lp_0]
  | n + 1, hn => by
    have ih := bt_arO hw hN s hi n (by omega)
    rw [lp_s, arO]
    by_cases c : bt s n = true
    · rw [if_pos c, bt_arI hw (by omega) hN hi, ih]
      constructor
      · rintro ((h | ⟨p, hp, q⟩) | q)
        · exact .inl h
        · exact .inr ⟨p, by omega, q⟩
        · exact .inr ⟨n, by omega, c, q⟩
      · rintro (h | ⟨p, hp, q1, q2⟩)
        · exact .inl (.inl h)
        · rcases Nat.lt_or_ge p n with z | z
          · exact .inl (.inr ⟨p, z, q1, q2⟩)
          · have : p = n := by omega
            subst this
            exact .inr q2
    · rw [if_neg c, ih]
      constructor
      · rintro (h | ⟨p, hp, q⟩)
        · exact .inl h
        · exact .inr ⟨p, by omega, q⟩
      · rintro (h | ⟨p, hp, q1, q2⟩)
        · exact .inl h
        · rcases Nat.lt_or_ge p n with z | z
          · exact .inr ⟨p, z, q1, q2⟩
          · have : p = n := by omega
            subst this
            exact absurd q1 c
theorem ar_lp {w g : Nat} {s : Int32} (hw : w < 7) (hg : g < 6) (h1 : 1 ≤ w) (hN : w * g ≤ 30) (hs : sub (w * g) s) : lp (arO w g s) (w * g) s = arS w g s := by
  apply b_ext
  intro i hi
  apply Bool.eq_iff_iff.mpr
  rw [bt_arO h1 hN s hi _ (Nat.le_refl _), bt_ar hw hg h1 hN hs hi, Bool.or_eq_true, Bool.and_eq_true, decide_eq_true_eq, nb_iff]
  constructor
  · rintro (h | ⟨p, hp, q1, k, hk, q2⟩)
    · exact .inl h
    · exact .inr ⟨bes_lt h1 hp q2, opp k, p, opp_lt hk, bes_opp hw hg (by omega) hk h1 hp q2, q1⟩
  · rintro (h | ⟨hi', k, q, hk, e, b⟩)
    · exact .inl h
    · exact .inr ⟨q, bes_lt h1 hi' e, b, opp k, opp_lt hk, bes_opp hw hg (by omega) hk h1 hi' e⟩
section MWalk
variable {h : mH} {W : WD}
theorem held_ev (O : mO) (d : Nat) (H : MW h W) (R : rng W) {t : Nat} (ht : t < 2 ^ 20) (wt : Int32) : ev O (d + 4) 230 0 [.ref 66, .int (nI t), .int wt, mJ, mJ] [] h = some (.inl (some (.int (hdS W (nI (t % 24)) wt))), h) := by
  have hN := pN_le R
  have hr : nI t - nI t / 24 * 24 = nI (t % 24) := pk_rem (d := 24) (by omega) (by omega) (by omega)
  have e := lp_run (F := fun i s => ev O (d + 4) 230 5 [.ref 66, .int (nI t), .int wt, .int s, .int (nI i)] [] h) (f := fun p s => if hlB W p (nI (t % 24)) wt = true then s ||| shl1 p else s) (n := pN W) (fun i s hi => by
    have h1 : ¬ nI (pN W) ≤ nI i := nI_ge hi (by omega)
    rw [e_230_5]
    cases hc : hlB W i (nI (t % 24)) wt <;> simp only [e_230_0, e_230_1, e_230_2, e_230_3, e_230_7, e_230_8, e_230_11, e_230_14, e_230_15, e_230_16, e_230_18, e_230_19, e_230_21, e_230_22, e_230_23, e_230_26, e_230_29, e_230_30, e_230_32, e_230_33, e_230_36, e_230_37, e_230_38, e_230_39, e_230_42, e_230_45, e_230_46, Option.bind_some, Option.bind_none, m_kt, m_kn, Option.toList_some, Option.toList_none, List.nil_append, List.cons_append, List.append_nil, ltn, ite_not, ↓reduceIte, true_or, or_true, nP1, oI_s, oI_n, bI_f, bI_t, i1_0, i0_0, Bool.false_eq_true, not_true_eq_false, not_false_eq_true, H.1, panes_ev O (d + 3) H R, h1, z24, hr, isHeld_ev O d H R (show i < 30 by omega), hc, or_0, shl_nI]) 0
  simp only [e_230_0, e_230_1, e_230_2, e_230_3, e_230_7, e_230_8, e_230_11, e_230_14, e_230_15, e_230_16, e_230_18, e_230_19, e_230_21, e_230_22, e_230_23, e_230_26, e_230_29, e_230_30, e_230_32, e_230_33, e_230_36, e_230_37, e_230_38, e_230_39, e_230_42, e_230_45, e_230_46, Option.bind_some, Option.bind_none, m_kt, m_kn, Option.toList_some, Option.toList_none, List.nil_append, List.cons_append, List.append_nil, ltn, ite_not, ↓reduceIte, true_or, or_true, nP1, oI_s, oI_n, bI_f, bI_t, i1_0, i0_0, Bool.false_eq_true, not_true_eq_false, not_false_eq_true]
  simp only [nI_0] at e
  rw [e, e_230_5]
  simp only [e_230_0, e_230_1, e_230_2, e_230_3, e_230_7, e_230_8, e_230_11, e_230_14, e_230_15, e_230_16, e_230_18, e_230_19, e_230_21, e_230_22, e_230_23, e_230_26, e_230_29, e_230_30, e_230_32, e_230_33, e_230_36, e_230_37, e_230_38, e_230_39, e_230_42, e_230_45, e_230_46, Option.bind_some, Option.bind_none, m_kt, m_kn, Option.toList_some, Option.toList_none, List.nil_append, List.cons_append, List.append_nil, ltn, ite_not, ↓reduceIte, true_or, or_true, nP1, oI_s, oI_n, bI_f, bI_t, i1_0, i0_0, Bool.false_eq_true, not_true_eq_false, not_false_eq_true, H.1, panes_ev O (d + 3) H R, Int32.le_refl]
  rfl
theorem around_ev (O : mO) (d : Nat) (H : MW h W) (R : rng W) {s : Int32} (hs : sub (wN W * gN W) s) : ev O (d + 2) 231 0 [.ref 66, .int s, mJ, mJ, mJ] [] h = some (.inl (some (.int (arS (wN W) (gN W) s))), h) := by
  have hN := pN_le R
  have hw := R.1.1.2
  have hg := R.1.2.1.2
  have e := lp_runV (ν := Value) (F := fun i b v => ev O (d + 2) 231 4 [.ref 66, .int s, .int b, .int (nI i), v] [] h) (f := arO (wN W) (gN W) s) (n := pN W) (fun i b v hi => by
    have h1 : ¬ nI (pN W) ≤ nI i := nI_ge hi (by omega)
    rw [e_231_4]
    unfold arO
    cases hc : bt s i
    · have h2 : ¬ (4 : Int32) ≤ 0 := by decide
      simp only [e_231_0, e_231_1, e_231_2, e_231_3, e_231_5, e_231_6, e_231_9, e_231_12, e_231_13, e_231_17, e_231_18, e_231_21, e_231_22, e_231_23, e_231_26, e_231_29, e_231_30, e_231_31, e_231_32, e_231_34, e_231_37, e_231_40, e_231_41, e_231_44, e_231_45, e_231_46, e_231_47, e_231_49, e_231_52, e_231_53, e_231_54, e_231_55, e_231_58, e_231_61, e_231_64, e_231_67, e_231_68, Option.bind_some, Option.bind_none, m_kt, m_kn, Option.toList_some, Option.toList_none, List.nil_append, List.cons_append, List.append_nil, ltn, ite_not, ↓reduceIte, true_or, or_true, nP1, oI_s, oI_n, bI_f, bI_t, i1_0, i0_0, Bool.false_eq_true, not_true_eq_false, not_false_eq_true, H.1, panes_ev O (d + 1) H R, h1]
      refine ⟨.int 0, ?_⟩
      rw [e_231_15]
      simp only [e_231_0, e_231_1, e_231_2, e_231_3, e_231_5, e_231_6, e_231_9, e_231_12, e_231_13, e_231_17, e_231_18, e_231_21, e_231_22, e_231_23, e_231_26, e_231_29, e_231_30, e_231_31, e_231_32, e_231_34, e_231_37, e_231_40, e_231_41, e_231_44, e_231_45, e_231_46, e_231_47, e_231_49, e_231_52, e_231_53, e_231_54, e_231_55, e_231_58, e_231_61, e_231_64, e_231_67, e_231_68, Option.bind_some, Option.bind_none, m_kt, m_kn, Option.toList_some, Option.toList_none, List.nil_append, List.cons_append, List.append_nil, ltn, ite_not, ↓reduceIte, true_or, or_true, nP1, oI_s, oI_n, bI_f, bI_t, i1_0, i0_0, Bool.false_eq_true, not_true_eq_false, not_false_eq_true, h2, has_ev O (d + 1) h s (show i < 32 by omega), hc]
    · have e2 := lp_run (F := fun k b => ev O (d + 2) 231 15 [.ref 66, .int s, .int b, .int (nI i), .int (nI k)] [] h) (f := arI (wN W) (gN W) i) (n := 4) (fun k b hk => by
        have h3 : ¬ (4 : Int32) ≤ nI k := nI_ge (b := 4) hk (by omega)
        rw [e_231_15]
        unfold arI
        cases e : bes (wN W) (gN W) i k with
        | none => simp only [e_231_0, e_231_1, e_231_2, e_231_3, e_231_4, e_231_5, e_231_6, e_231_9, e_231_12, e_231_13, e_231_17, e_231_18, e_231_21, e_231_22, e_231_23, e_231_26, e_231_29, e_231_30, e_231_31, e_231_32, e_231_34, e_231_37, e_231_40, e_231_41, e_231_44, e_231_45, e_231_46, e_231_47, e_231_49, e_231_52, e_231_53, e_231_54, e_231_55, e_231_58, e_231_61, e_231_64, e_231_67, e_231_68, Option.bind_some, Option.bind_none, m_kt, m_kn, Option.toList_some, Option.toList_none, List.nil_append, List.cons_append, List.append_nil, ltn, ite_not, ↓reduceIte, true_or, or_true, nP1, oI_s, oI_n, bI_f, bI_t, i1_0, i0_0, Bool.false_eq_true, not_true_eq_false, not_false_eq_true, h3, H.1, has_ev O (d + 1) h s (show i < 32 by omega), hc, mbeside_ev O d H R hi hk, e, m1_0, Option.elim_none]
        | some q =>
          have hq : q < pN W := bes_lt hw.1 hi e
          simp only [e_231_0, e_231_1, e_231_2, e_231_3, e_231_4, e_231_5, e_231_6, e_231_9, e_231_12, e_231_13, e_231_17, e_231_18, e_231_21, e_231_22, e_231_23, e_231_26, e_231_29, e_231_30, e_231_31, e_231_32, e_231_34, e_231_37, e_231_40, e_231_41, e_231_44, e_231_45, e_231_46, e_231_47, e_231_49, e_231_52, e_231_53, e_231_54, e_231_55, e_231_58, e_231_61, e_231_64, e_231_67, e_231_68, Option.bind_some, Option.bind_none, m_kt, m_kn, Option.toList_some, Option.toList_none, List.nil_append, List.cons_append, List.append_nil, ltn, ite_not, ↓reduceIte, true_or, or_true, nP1, oI_s, oI_n, bI_f, bI_t, i1_0, i0_0, Bool.false_eq_true, not_true_eq_false, not_false_eq_true, h3, H.1, has_ev O (d + 1) h s (show i < 32 by omega), hc, mbeside_ev O d H R hi hk, e, n0le (show q < 2 ^ 31 by omega), Option.elim_some, shl_nI]) b
      simp only [nI_0] at e2
      simp only [e_231_0, e_231_1, e_231_2, e_231_3, e_231_5, e_231_6, e_231_9, e_231_12, e_231_13, e_231_17, e_231_18, e_231_21, e_231_22, e_231_23, e_231_26, e_231_29, e_231_30, e_231_31, e_231_32, e_231_34, e_231_37, e_231_40, e_231_41, e_231_44, e_231_45, e_231_46, e_231_47, e_231_49, e_231_52, e_231_53, e_231_54, e_231_55, e_231_58, e_231_61, e_231_64, e_231_67, e_231_68, Option.bind_some, Option.bind_none, m_kt, m_kn, Option.toList_some, Option.toList_none, List.nil_append, List.cons_append, List.append_nil, ltn, ite_not, ↓reduceIte, true_or, or_true, nP1, oI_s, oI_n, bI_f, bI_t, i1_0, i0_0, Bool.false_eq_true, not_true_eq_false, not_false_eq_true, H.1, panes_ev O (d + 1) H R, h1]
      refine ⟨.int (nI 4), e2.trans ?_⟩
      rw [e_231_15]
      simp only [e_231_0, e_231_1, e_231_2, e_231_3, e_231_5, e_231_6, e_231_9, e_231_12, e_231_13, e_231_17, e_231_18, e_231_21, e_231_22, e_231_23, e_231_26, e_231_29, e_231_30, e_231_31, e_231_32, e_231_34, e_231_37, e_231_40, e_231_41, e_231_44, e_231_45, e_231_46, e_231_47, e_231_49, e_231_52, e_231_53, e_231_54, e_231_55, e_231_58, e_231_61, e_231_64, e_231_67, e_231_68, Option.bind_some, Option.bind_none, m_kt, m_kn, Option.toList_some, Option.toList_none, List.nil_append, List.cons_append, List.append_nil, ltn, ite_not, ↓reduceIte, true_or, or_true, nP1, oI_s, oI_n, bI_f, bI_t, i1_0, i0_0, Bool.false_eq_true, not_true_eq_false, not_false_eq_true, (show ((4 : Int32) ≤ nI 4) = True by decide)]) s mJ
  simp only [e_231_0, e_231_1, e_231_2, e_231_3, e_231_5, e_231_6, e_231_9, e_231_12, e_231_13, e_231_15, e_231_17, e_231_18, e_231_21, e_231_22, e_231_23, e_231_26, e_231_29, e_231_30, e_231_31, e_231_32, e_231_34, e_231_37, e_231_40, e_231_41, e_231_44, e_231_45, e_231_46, e_231_47, e_231_49, e_231_52, e_231_53, e_231_54, e_231_55, e_231_58, e_231_61, e_231_64, e_231_67, e_231_68, Option.bind_some, Option.bind_none, m_kt, m_kn, Option.toList_some, Option.toList_none, List.nil_append, List.cons_append, List.append_nil, ltn, ite_not, ↓reduceIte, true_or, or_true, nP1, oI_s, oI_n, bI_f, bI_t, i1_0, i0_0, Bool.false_eq_true, not_true_eq_false, not_false_eq_true]
  simp only [nI_0] at e
  obtain ⟨v, e⟩ := e
  rw [e, e_231_4]
  simp only [e_231_0, e_231_1, e_231_2, e_231_3, e_231_5, e_231_6, e_231_9, e_231_12, e_231_13, e_231_15, e_231_17, e_231_18, e_231_21, e_231_22, e_231_23, e_231_26, e_231_29, e_231_30, e_231_31, e_231_32, e_231_34, e_231_37, e_231_40, e_231_41, e_231_44, e_231_45, e_231_46, e_231_47, e_231_49, e_231_52, e_231_53, e_231_54, e_231_55, e_231_58, e_231_61, e_231_64, e_231_67, e_231_68, Option.bind_some, Option.bind_none, m_kt, m_kn, Option.toList_some, Option.toList_none, List.nil_append, List.cons_append, List.append_nil, ltn, ite_not, ↓reduceIte, true_or, or_true, nP1, oI_s, oI_n, bI_f, bI_t, i1_0, i0_0, Bool.false_eq_true, not_true_eq_false, not_false_eq_true, H.1, panes_ev O (d + 1) H R, Int32.le_refl]
  rw [show pN W = wN W * gN W from rfl, ar_lp (by omega) (by omega) hw.1 hN hs]
end MWalk
def hR (h : mH) (v : Nat → Int32) : mH := (h.1.set 77 (aI 49 v), h.2)
theorem hR_hR (h : mH) (v v' : Nat → Int32) : hR (hR h v) v' = hR h v' := by unfold hR; rw [List.set_set]
theorem MS.hR {h : mH} {m : Nat → Int32} {W : WD} (H : MS h m W) (v : Nat → Int32) : MS (hR h v) m W := H.out (A := fun b => b = 77) (out.st h _ rfl) (by decide) (by decide)
theorem hR_at {h : mH} {v0 : Nat → Int32} (e : h.1[77]? = some (aI 49 v0)) (v : Nat → Int32) : (hR h v).1[77]? = some (aI 49 v) := hget e
theorem hR_s {h : mH} {v0 : Nat → Int32} (e : h.1[77]? = some (aI 49 v0)) (v : Nat → Int32) {k : Nat} (hk : k < 49) (x : Int32) : m_si (hR h v) 77 (nI k) x = some (hR h (upd v k x)) := by
  rw [si_n (hR_at e v) hk (by decide)]
  exact congrArg some (hR_hR h v _)
theorem hR_g {h : mH} {v0 : Nat → Int32} (e : h.1[77]? = some (aI 49 v0)) (v : Nat → Int32) {k : Nat} (hk : k < 49) : m_ai (hR h v) 77 (nI k) = some (v k) := ai_n (hR_at e v) hk (by decide)
theorem hR_id {h : mH} {v0 : Nat → Int32} (e : h.1[77]? = some (aI 49 v0)) : hR h v0 = h := by unfold hR; rw [hset e]
section MHours
variable {h : mH} {m : Nat → Int32} {W : WD}
theorem hours_ev (O : mO) (d : Nat) (H : MS h m W) (R : rng W) {v0 : Nat → Int32} (e7 : h.1[77]? = some (aI 49 v0)) {fr to st : Nat} (hfr : fr < pN W) (hto : to < pN W) (hst : st < 24) (wt : Int32) : ∃ v, ev O (d + 5) 232 0 [.ref 66, .int (nI fr), .int (nI to), .int (nI st), .int wt, mJ] [] h = some (.inl (some (.int (oI (hoS (wN W) (gN W) (hdT W st wt) fr to)))), hR h v) := by
  have hN := pN_le R
  have hs : ∀ t, sub (wN W * gN W) (hdT W st wt t) := fun t => sub_hd W R _ _
  have e := fd_runJ (ν := Nat → Int32) (c := fun t => bt (rcS (wN W) (gN W) (hdT W st wt) fr t) to) (n := 49) (F := fun t v => ev O (d + 5) 232 20 [.ref 66, .int (nI fr), .int (nI to), .int (nI st), .int wt, .int (nI t)] [] (hR h v)) (E := fun t r => ∃ v, r = some (.inl (some (.int (nI t))), hR h v)) (fun t v => v (t - 1) = rcS (wN W) (gN W) (hdT W st wt) fr (t - 1)) (fun t v ht J => by
    have h1 : nI t ≤ 48 := nI_le (b := 48) (by omega) (by omega)
    have H1 := H.hR v
    have key : ∃ v', v' t = rcS (wN W) (gN W) (hdT W st wt) fr t ∧ ev O (d + 5) 232 20 [.ref 66, .int (nI fr), .int (nI to), .int (nI st), .int wt, .int (nI t)] [] (hR h v) = ev O (d + 5) 232 63 [.ref 66, .int (nI fr), .int (nI to), .int (nI st), .int wt, .int (nI t)] [] (hR h v') := by
      rcases Nat.eq_zero_or_pos t with z | z
      · subst z
        refine ⟨v, J, ?_⟩
        simp only [e_232_20, e_232_22, e_232_24, e_232_27, e_232_29, Option.bind_some, Option.bind_none, m_kt, m_kn, Option.toList_some, Option.toList_none, List.nil_append, List.cons_append, List.append_nil, ltn, ite_not, ↓reduceIte, true_or, or_true, nP1, oI_s, oI_n, bI_f, bI_t, i1_0, i0_0, Bool.false_eq_true, not_true_eq_false, not_false_eq_true, h1, (show (nI 0 ≤ 0) = True by decide)]
      · obtain ⟨t, rfl⟩ : ∃ k, t = k + 1 := ⟨t - 1, by omega⟩
        rw [Nat.add_sub_cancel] at J
        have z2 : (nI (t + 1) ≤ 0) = False := by rw [nle0 (by omega)]; simp
        refine ⟨upd v (t + 1) (rcS (wN W) (gN W) (hdT W st wt) fr (t + 1)), pk_us, ?_⟩
        have ea := around_ev O (d + 2) H1.w R (sub_rc (fr := fr) hs t)
        have eh := held_ev O d H1.w R (show st + (t + 1) < 2 ^ 20 by omega) wt
        simp only [e_232_0, e_232_1, e_232_4, e_232_5, e_232_6, e_232_7, e_232_9, e_232_12, e_232_13, e_232_14, e_232_15, e_232_16, e_232_17, e_232_18, e_232_20, e_232_22, e_232_24, e_232_27, e_232_29, e_232_32, e_232_33, e_232_36, e_232_38, e_232_39, e_232_40, e_232_43, e_232_45, e_232_46, e_232_47, e_232_48, e_232_51, e_232_52, e_232_53, e_232_55, e_232_56, e_232_58, e_232_61, e_232_62, e_232_64, e_232_67, e_232_69, e_232_70, e_232_71, e_232_74, e_232_77, e_232_79, e_232_80, e_232_83, e_232_86, e_232_87, Option.bind_some, Option.bind_none, m_kt, m_kn, Option.toList_some, Option.toList_none, List.nil_append, List.cons_append, List.append_nil, ltn, ite_not, ↓reduceIte, true_or, or_true, nP1, oI_s, oI_n, bI_f, bI_t, i1_0, i0_0, Bool.false_eq_true, not_true_eq_false, not_false_eq_true, h1, z2, gM21 H1.1, nI_pred, hR_g e7 v (show t < 49 by omega), J, H1.isc, ea, eh, nA, hR_s e7 v (show t + 1 < 49 by omega)]
        rfl
    obtain ⟨v', k1, k2⟩ := key
    have H2 := H.hR v'
    rw [k2]
    refine ⟨fun hc => ⟨v', ?_⟩, fun hc => ⟨v', k1, ?_⟩⟩ <;> simp only [e_232_0, e_232_1, e_232_4, e_232_5, e_232_6, e_232_7, e_232_9, e_232_12, e_232_13, e_232_14, e_232_15, e_232_16, e_232_17, e_232_18, e_232_22, e_232_24, e_232_27, e_232_29, e_232_32, e_232_33, e_232_36, e_232_38, e_232_39, e_232_40, e_232_43, e_232_45, e_232_46, e_232_47, e_232_48, e_232_51, e_232_52, e_232_53, e_232_55, e_232_56, e_232_58, e_232_61, e_232_62, e_232_63, e_232_64, e_232_67, e_232_69, e_232_70, e_232_71, e_232_74, e_232_77, e_232_79, e_232_80, e_232_83, e_232_86, e_232_87, Option.bind_some, Option.bind_none, m_kt, m_kn, Option.toList_some, Option.toList_none, List.nil_append, List.cons_append, List.append_nil, ltn, ite_not, ↓reduceIte, true_or, or_true, nP1, oI_s, oI_n, bI_f, bI_t, i1_0, i0_0, Bool.false_eq_true, not_true_eq_false, not_false_eq_true, gM21 H2.1, hR_g e7 v' ht, k1, has_ev O (d + 4) _ _ (show to < 32 by omega), hc]) (upd v0 0 (rcS (wN W) (gN W) (hdT W st wt) fr 0)) pk_us
  have eh := held_ev O d H.w R (show st < 2 ^ 20 by omega) wt
  have h0 : m_si h 77 0 (rcS (wN W) (gN W) (hdT W st wt) fr 0) = some (hR h (upd v0 0 (rcS (wN W) (gN W) (hdT W st wt) fr 0))) := si_n e7 (k := 0) (by omega) (by decide) _
  have hz : hdS W (nI (st % 24)) wt &&& shl1 fr = rcS (wN W) (gN W) (hdT W st wt) fr 0 := rfl
  simp only [e_232_0, e_232_1, e_232_4, e_232_5, e_232_6, e_232_7, e_232_9, e_232_12, e_232_13, e_232_14, e_232_15, e_232_16, e_232_17, e_232_18, e_232_22, e_232_24, e_232_27, e_232_29, e_232_32, e_232_33, e_232_36, e_232_38, e_232_39, e_232_40, e_232_43, e_232_45, e_232_46, e_232_47, e_232_48, e_232_51, e_232_52, e_232_53, e_232_55, e_232_56, e_232_58, e_232_61, e_232_62, e_232_63, e_232_64, e_232_67, e_232_69, e_232_70, e_232_71, e_232_74, e_232_77, e_232_79, e_232_80, e_232_83, e_232_86, e_232_87, Option.bind_some, Option.bind_none, m_kt, m_kn, Option.toList_some, Option.toList_none, List.nil_append, List.cons_append, List.append_nil, ltn, ite_not, ↓reduceIte, true_or, or_true, nP1, oI_s, oI_n, bI_f, bI_t, i1_0, i0_0, Bool.false_eq_true, not_true_eq_false, not_false_eq_true, gM21 H.1, H.isc, eh, shl_nI, hz, h0]
  simp only [nI_0] at e
  unfold hoS
  rcases e with ⟨i, ei, v, e⟩ | ⟨en, v, -, e⟩
  · rw [ei]
    exact ⟨v, e⟩
  · rw [en]
    refine ⟨v, e.trans ?_⟩
    rw [e_232_20]
    simp only [e_232_0, e_232_1, e_232_4, e_232_5, e_232_6, e_232_7, e_232_9, e_232_12, e_232_13, e_232_14, e_232_15, e_232_16, e_232_17, e_232_18, e_232_22, e_232_24, e_232_27, e_232_29, e_232_32, e_232_33, e_232_36, e_232_38, e_232_39, e_232_40, e_232_43, e_232_45, e_232_46, e_232_47, e_232_48, e_232_51, e_232_52, e_232_53, e_232_55, e_232_56, e_232_58, e_232_61, e_232_62, e_232_63, e_232_64, e_232_67, e_232_69, e_232_70, e_232_71, e_232_74, e_232_77, e_232_79, e_232_80, e_232_83, e_232_86, e_232_87, Option.bind_some, Option.bind_none, m_kt, m_kn, Option.toList_some, Option.toList_none, List.nil_append, List.cons_append, List.append_nil, ltn, ite_not, ↓reduceIte, true_or, or_true, nP1, oI_s, oI_n, bI_f, bI_t, i1_0, i0_0, Bool.false_eq_true, not_true_eq_false, not_false_eq_true, (show (nI 49 ≤ 48) = False by decide)]
end MHours
