/-! Ways by hours: the class -/
def oWk (f t s : Int32) : mC := .inr (6, [.int f, .int t, .int s, .ref 57, .ref 58, .ref 59, .ref 60, .ref 61, .ref 62])
theorem gW0 {h : mH} {f t s : Int32} (H : h.1[56]? = some (oWk f t s)) : m_gf h 56 6 0 = some (.int f) := by simp only [m_gf, H, oWk, ↓reduceIte]; rfl
theorem pW0 {h : mH} {f t s : Int32} (H : h.1[56]? = some (oWk f t s)) (x : Int32) : m_pf h 56 6 0 (.int x) = some (h.1.set 56 (oWk x t s), h.2) := by simp only [m_pf, H]; rfl
theorem gW1 {h : mH} {f t s : Int32} (H : h.1[56]? = some (oWk f t s)) : m_gf h 56 6 1 = some (.int t) := by simp only [m_gf, H, oWk, ↓reduceIte]; rfl
theorem pW1 {h : mH} {f t s : Int32} (H : h.1[56]? = some (oWk f t s)) (x : Int32) : m_pf h 56 6 1 (.int x) = some (h.1.set 56 (oWk f x s), h.2) := by simp only [m_pf, H]; rfl
theorem gW2 {h : mH} {f t s : Int32} (H : h.1[56]? = some (oWk f t s)) : m_gf h 56 6 2 = some (.int s) := by simp only [m_gf, H, oWk, ↓reduceIte]; rfl
theorem pW2 {h : mH} {f t s : Int32} (H : h.1[56]? = some (oWk f t s)) (x : Int32) : m_pf h 56 6 2 (.int x) = some (h.1.set 56 (oWk f t x), h.2) := by simp only [m_pf, H]; rfl
theorem gW3 {h : mH} {f t s : Int32} (H : h.1[56]? = some (oWk f t s)) : m_gf h 56 6 3 = some (.ref 57) := by simp only [m_gf, H, oWk, ↓reduceIte]; rfl
theorem gW4 {h : mH} {f t s : Int32} (H : h.1[56]? = some (oWk f t s)) : m_gf h 56 6 4 = some (.ref 58) := by simp only [m_gf, H, oWk, ↓reduceIte]; rfl
theorem gW5 {h : mH} {f t s : Int32} (H : h.1[56]? = some (oWk f t s)) : m_gf h 56 6 5 = some (.ref 59) := by simp only [m_gf, H, oWk, ↓reduceIte]; rfl
theorem gW6 {h : mH} {f t s : Int32} (H : h.1[56]? = some (oWk f t s)) : m_gf h 56 6 6 = some (.ref 60) := by simp only [m_gf, H, oWk, ↓reduceIte]; rfl
theorem gW7 {h : mH} {f t s : Int32} (H : h.1[56]? = some (oWk f t s)) : m_gf h 56 6 7 = some (.ref 61) := by simp only [m_gf, H, oWk, ↓reduceIte]; rfl
theorem gW8 {h : mH} {f t s : Int32} (H : h.1[56]? = some (oWk f t s)) : m_gf h 56 6 8 = some (.ref 62) := by simp only [m_gf, H, oWk, ↓reduceIte]; rfl
def WS (b : Nat) : Prop := 56 ≤ b ∧ b ≤ 62
def WK (h : mH) (f t s : Int32) (L B BT OP OT : Nat → Int32) : Prop := h.1[56]? = some (oWk f t s) ∧ h.1[57]? = some (aI 720 L) ∧ h.1[58]? = some (aI 30 B) ∧ h.1[59]? = some (aI 30 BT) ∧ h.1[60]? = some (aI 24 OP) ∧ h.1[61]? = some (aI 24 OT) ∧ ∃ LD, h.1[62]? = some (aI 49 LD)
theorem CA_ws {h h' : mH} {a : Nat} {W : WD} (H : CA h a W) (ha : a < 28) (F : out WS h h') : CA h' a W := H.out F (fun b hb => by unfold WS at hb; omega)
theorem W_isc {h : mH} {f t s : Int32} (e : h.1[56]? = some (oWk f t s)) : m_isc h 56 6 = true := by simp only [m_isc, e, oWk]; rfl
def ldK (W : WD) (p hr : Int32) (k : Nat) : Int32 := lp (fun k s => if W (187 + 5 * k + 1) = p ∧ thenB hr (W (187 + 5 * k + 2)) (W (187 + 5 * k + 3)) = true then s + prs W k else s) k 0
def qN (W : WD) (k : Nat) : Nat := (W (187 + 5 * k + 1)).toNatClampNeg
theorem qN_e {W : WD} (R : rng W) {k : Nat} (hk : k < kN W) : W (187 + 5 * k + 1) = nI (qN W k) ∧ qN W k < pN W := by
  have hN := pN_le R
  obtain ⟨q, hq, e⟩ := (R.2.2.1 k hk).2.1
  have : qN W k = q := by unfold qN; rw [e, nI_clamp (by omega)]
  rw [this]
  exact ⟨e, hq⟩
theorem prs_b {W : WD} (R : rng W) {k : Nat} (hk : k < kN W) : bd 0 400 (prs W k) := by
  have h := (R.2.2.1 k hk).1
  unfold prs bd at *
  split
  · omega
  · have e : (2 : Int32).toInt = 2 := by decide
    rw [fb_mulI (by rw [e]; omega) (by rw [e]; omega), e]
    omega
theorem ldK_b {W : WD} (R : rng W) (p hr : Int32) : ∀ k, k ≤ kN W → bd 0 (400 * k) (ldK W p hr k)
  | 0, _ => by unfold ldK bd; rw [lp_0]; decide
  | k + 1, hk => by
    have ih := ldK_b R p hr k (by omega)
    have hp := prs_b R (show k < kN W by omega)
    have h12 := kN_le R
    unfold ldK at *
    rw [lp_s]
    unfold bd at *
    split
    · rw [fb_addI (by omega) (by omega)]; omega
    · omega
theorem loadS_b {W : WD} (R : rng W) (p hr : Int32) : bd 0 4800 (loadS W p hr) := by
  have := ldK_b R p hr (kN W) (Nat.le_refl _)
  have h12 := kN_le R
  have e : loadS W p hr = ldK W p hr (kN W) := rfl
  rw [e]
  unfold bd at *
  omega
def adB (W : WD) (k : Nat) : Nat → (Nat → Int32) → (Nat → Int32) := fun hh f => if thenB (nI hh) (W (187 + 5 * k + 2)) (W (187 + 5 * k + 3)) = true then upd f (30 * hh + qN W k) (f (30 * hh + qN W k) + prs W k) else f
def adS (W : WD) (k : Nat) (f : Nat → Int32) : Nat → Int32 := lp (adB W k) 24 f
theorem adB_at {W : WD} {k p hr : Nat} (f : Nat → Int32) (hq : qN W k < 30) (hp : p < 30) : ∀ n, lp (adB W k) n f (30 * hr + p) = if hr < n ∧ p = qN W k ∧ thenB (nI hr) (W (187 + 5 * k + 2)) (W (187 + 5 * k + 3)) = true then f (30 * hr + p) + prs W k else f (30 * hr + p)
  | 0 => by rw [lp_0, if_neg (by omega)]
  | n + 1 => by
    have ih := adB_at (hr := hr) f hq hp n
    rw [lp_s]
    unfold adB at *
    by_cases c : thenB (nI n) (W (187 + 5 * k + 2)) (W (187 + 5 * k + 3)) = true
    · rw [if_pos c]
      by_cases e : 30 * hr + p = 30 * n + qN W k
      · have e1 : hr = n := by omega
        have e2 : p = qN W k := by omega
        subst e1
        rw [← e2] at *
        rw [pk_us, ih, if_neg (by omega), if_pos ⟨by omega, rfl, c⟩]
      · rw [pk_un e, ih]
        by_cases z : hr = n
        · rw [if_neg (by omega), if_neg (by omega)]
        · congr 1
          apply propext
          constructor <;> (rintro ⟨a, b⟩; exact ⟨by omega, b⟩)
    · rw [if_neg c, ih]
      by_cases z : hr = n
      · subst z
        rw [if_neg (by omega), if_neg (fun q => c q.2.2)]
      · congr 1
        apply propext
        constructor <;> (rintro ⟨a, b⟩; exact ⟨by omega, b⟩)
def hL (h : mH) (f : Nat → Int32) : mH := (h.1.set 57 (aI 720 f), h.2)
theorem lp_upd (c : Nat → Int32) (P : Nat → Int32) (j : Nat) : ∀ n, lp (fun i P => upd P i (c i)) n P j = if j < n then c j else P j
  | 0 => by rw [lp_0, if_neg (by omega)]
  | n + 1 => by
    rw [lp_s]
    by_cases e : j = n
    · subst e; rw [pk_us, if_pos (by omega)]
    · rw [pk_un e, lp_upd c P j n]
      congr 1
      apply propext; omega
section WalkC
variable {h : mH} {a : Nat} {W : WD}
theorem addLoad_ev (O : mO) (d : Nat) (H : CA h a W) (ha : a < 28) (R : rng W) {f t s : Int32} (e6 : h.1[56]? = some (oWk f t s)) {L0 : Nat → Int32} (e7 : h.1[57]? = some (aI 720 L0)) {k : Nat} (hk : k < kN W) (L : Nat → Int32) : ev O (d + 1) 91 0 [.ref 56, .ref a, .int (nI k), mJ, mJ] [] (hL h L) = some (.inl none, hL h (adS W k L)) := by
  have hN := pN_le R
  obtain ⟨qe, ql⟩ := qN_e R hk
  have F : ∀ L, out (fun b => b = 57) h (hL h L) := fun L => out.st h _ rfl
  have H1 : ∀ L, CA (hL h L) a W := fun L => H.out (F L) (fun b hb => by omega)
  have g6 : ∀ L, (hL h L).1[56]? = some (oWk f t s) := fun L => ((F L).2.2 56 (by decide)).trans e6
  have g7 : ∀ L, (hL h L).1[57]? = some (aI 720 L) := fun L => hget e7
  have e := lp_run (F := fun i L => ev O (d + 1) 91 14 [.ref 56, .ref a, .int (nI k), .int (nI (qN W k)), .int (nI i)] [] (hL h L)) (f := adB W k) (n := 24) (fun i L hi => by
    have h1 : ¬ (24 : Int32) ≤ nI i := nI_ge (b := 24) hi (by omega)
    have s1 : ∀ x, m_si (hL h L) 57 (nI (30 * i + qN W k)) x = some (hL h (upd L (30 * i + qN W k) x)) := fun x => by
      rw [si_n (g7 L) (by omega) (by decide)]
      unfold hL
      rw [List.set_set]
    rw [e_91_14]
    unfold adB
    cases hc : thenB (nI i) (W (187 + 5 * k + 2)) (W (187 + 5 * k + 3)) <;> simp only [e_91_0, e_91_1, e_91_4, e_91_5, e_91_6, e_91_7, e_91_8, e_91_9, e_91_10, e_91_11, e_91_12, e_91_16, e_91_18, e_91_21, e_91_22, e_91_23, e_91_25, e_91_28, e_91_31, e_91_32, e_91_35, e_91_37, e_91_39, e_91_40, e_91_41, e_91_42, e_91_43, e_91_44, e_91_45, e_91_46, e_91_49, e_91_50, e_91_51, e_91_54, e_91_57, Option.bind_some, Option.bind_none, m_kt, m_kn, Option.toList_some, Option.toList_none, List.nil_append, List.cons_append, List.append_nil, ltn, ite_not, ↓reduceIte, true_or, or_true, nP1, oI_s, oI_n, bI_f, bI_t, i1_0, i0_0, Bool.false_eq_true, not_true_eq_false, not_false_eq_true, h1, (H1 L).isc, isThere_ev O d (H1 L) R hk, pressOf_ev O d (H1 L) R hk, hc, gW3 (g6 L), n30, nA, ai_n (g7 L) (show 30 * i + qN W k < 720 by omega) (by decide), s1]) L
  simp only [e_91_0, e_91_1, e_91_4, e_91_5, e_91_6, e_91_7, e_91_8, e_91_9, e_91_10, e_91_11, e_91_12, e_91_16, e_91_18, e_91_21, e_91_22, e_91_23, e_91_25, e_91_28, e_91_31, e_91_32, e_91_35, e_91_37, e_91_39, e_91_40, e_91_41, e_91_42, e_91_43, e_91_44, e_91_45, e_91_46, e_91_49, e_91_50, e_91_51, e_91_54, e_91_57, Option.bind_some, Option.bind_none, m_kt, m_kn, Option.toList_some, Option.toList_none, List.nil_append, List.cons_append, List.append_nil, ltn, ite_not, ↓reduceIte, true_or, or_true, nP1, oI_s, oI_n, bI_f, bI_t, i1_0, i0_0, Bool.false_eq_true, not_true_eq_false, not_false_eq_true, gC13 (H1 L), n5, (H1 L).k R hk (show 1 < 5 by omega), qe]
  simp only [nI_0] at e
  rw [e, e_91_14]
  simp only [e_91_0, e_91_1, e_91_4, e_91_5, e_91_6, e_91_7, e_91_8, e_91_9, e_91_10, e_91_11, e_91_12, e_91_16, e_91_18, e_91_21, e_91_22, e_91_23, e_91_25, e_91_28, e_91_31, e_91_32, e_91_35, e_91_37, e_91_39, e_91_40, e_91_41, e_91_42, e_91_43, e_91_44, e_91_45, e_91_46, e_91_49, e_91_50, e_91_51, e_91_54, e_91_57, Option.bind_some, Option.bind_none, m_kt, m_kn, Option.toList_some, Option.toList_none, List.nil_append, List.cons_append, List.append_nil, ltn, ite_not, ↓reduceIte, true_or, or_true, nP1, oI_s, oI_n, bI_f, bI_t, i1_0, i0_0, Bool.false_eq_true, not_true_eq_false, not_false_eq_true, (show ((24 : Int32) ≤ nI 24) = True by decide)]
  rfl
def hO (h : mH) (r : Nat) (P : Nat → Int32) : mH := (h.1.set r (aI 24 P), h.2)
def opS (N : Nat) (L B : Nat → Int32) (wt : Int32) (hh : Nat) : Int32 := bs N (fun p => decide (L (30 * hh + p) + wt ≤ B p))
theorem fillOpen_ev (O : mO) (d : Nat) (H : CA h a W) (ha : a < 28) (R : rng W) {f t s : Int32} (e6 : h.1[56]? = some (oWk f t s)) {L B P : Nat → Int32} {r b : Nat} (e7 : h.1[57]? = some (aI 720 L)) (eb : h.1[b]? = some (aI 30 B)) (er : h.1[r]? = some (aI 24 P)) (hr : 60 ≤ r) (hb : b < 60) (wt : Int32) : ev O (d) 92 0 [.ref 56, .ref a, .ref r, .ref b, .int wt, mJ, mJ, mJ] [] h = some (.inl none, (h.1.set r (aI 24 (lp (fun i P => upd P i (opS (pN W) L B wt i)) 24 P)), h.2)) := by
  have hN := pN_le R
  have F : ∀ P, out (fun b => b = r) h (hO h r P) := fun P => out.st h _ rfl
  have H1 : ∀ P, CA (hO h r P) a W := fun P => H.out (F P) (fun b hb => by omega)
  have g6 : ∀ P, (hO h r P).1[56]? = some (oWk f t s) := fun P => (hne (by omega)).trans e6
  have g7 : ∀ P, (hO h r P).1[57]? = some (aI 720 L) := fun P => (hne (by omega)).trans e7
  have gb : ∀ P, (hO h r P).1[b]? = some (aI 30 B) := fun P => (hne (by omega)).trans eb
  have gr : ∀ P, (hO h r P).1[r]? = some (aI 24 P) := fun P => hget er
  have e := lp_runV (ν := Value × Value) (F := fun i P v => ev O (d) 92 3 [.ref 56, .ref a, .ref r, .ref b, .int wt, .int (nI i), v.1, v.2] [] (hO h r P)) (f := fun i P => upd P i (opS (pN W) L B wt i)) (n := 24) (fun i P v hi => by
    have h1 : ¬ (24 : Int32) ≤ nI i := nI_ge (b := 24) hi (by omega)
    have e2 := lp_run (F := fun p s => ev O (d) 92 16 [.ref 56, .ref a, .ref r, .ref b, .int wt, .int (nI i), .int s, .int (nI p)] [] (hO h r P)) (f := fun p s => if decide (L (30 * i + p) + wt ≤ B p) = true then s ||| shl1 p else s) (n := pN W) (fun p s hp => by
      have h2 : ¬ nI (pN W) ≤ nI p := nI_ge hp (by omega)
      rw [e_92_16]
      simp only [decide_eq_true_eq]
      by_cases hc : L (30 * i + p) + wt ≤ B p <;> simp only [e_92_0, e_92_1, e_92_3, e_92_5, e_92_7, e_92_10, e_92_11, e_92_13, e_92_14, e_92_18, e_92_19, e_92_22, e_92_25, e_92_26, e_92_29, e_92_31, e_92_33, e_92_34, e_92_36, e_92_37, e_92_38, e_92_40, e_92_41, e_92_42, e_92_44, e_92_45, e_92_48, e_92_50, e_92_51, e_92_53, e_92_54, e_92_55, e_92_57, e_92_60, e_92_63, e_92_64, e_92_66, e_92_68, e_92_69, e_92_72, e_92_75, Option.bind_some, Option.bind_none, m_kt, m_kn, Option.toList_some, Option.toList_none, List.nil_append, List.cons_append, List.append_nil, ltn, ite_not, ↓reduceIte, true_or, or_true, nP1, oI_s, oI_n, bI_f, bI_t, i1_0, i0_0, Bool.false_eq_true, not_true_eq_false, not_false_eq_true, h2, gC2 (H1 P), gW3 (g6 P), n30, nA, ai_n (g7 P) (show 30 * i + p < 720 by omega) (by decide), ai_n (gb P) (show p < 30 by omega) (by decide), hc, shl_nI]) 0
    simp only [nI_0] at e2
    have s1 : ∀ x, m_si (hO h r P) r (nI i) x = some (hO h r (upd P i x)) := fun x => by
      rw [si_n (gr P) hi (by decide)]
      simp only [hO, List.set_set]
    rw [e_92_3]
    simp only [e_92_0, e_92_1, e_92_5, e_92_7, e_92_10, e_92_11, e_92_13, e_92_14, e_92_18, e_92_19, e_92_22, e_92_25, e_92_26, e_92_29, e_92_31, e_92_33, e_92_34, e_92_36, e_92_37, e_92_38, e_92_40, e_92_41, e_92_42, e_92_44, e_92_45, e_92_48, e_92_50, e_92_51, e_92_53, e_92_54, e_92_55, e_92_57, e_92_60, e_92_63, e_92_64, e_92_66, e_92_68, e_92_69, e_92_72, e_92_75, Option.bind_some, Option.bind_none, m_kt, m_kn, Option.toList_some, Option.toList_none, List.nil_append, List.cons_append, List.append_nil, ltn, ite_not, ↓reduceIte, true_or, or_true, nP1, oI_s, oI_n, bI_f, bI_t, i1_0, i0_0, Bool.false_eq_true, not_true_eq_false, not_false_eq_true, h1]
    rw [e2, e_92_16]
    simp only [e_92_0, e_92_1, e_92_5, e_92_7, e_92_10, e_92_11, e_92_13, e_92_14, e_92_18, e_92_19, e_92_22, e_92_25, e_92_26, e_92_29, e_92_31, e_92_33, e_92_34, e_92_36, e_92_37, e_92_38, e_92_40, e_92_41, e_92_42, e_92_44, e_92_45, e_92_48, e_92_50, e_92_51, e_92_53, e_92_54, e_92_55, e_92_57, e_92_60, e_92_63, e_92_64, e_92_66, e_92_68, e_92_69, e_92_72, e_92_75, Option.bind_some, Option.bind_none, m_kt, m_kn, Option.toList_some, Option.toList_none, List.nil_append, List.cons_append, List.append_nil, ltn, ite_not, ↓reduceIte, true_or, or_true, nP1, oI_s, oI_n, bI_f, bI_t, i1_0, i0_0, Bool.false_eq_true, not_true_eq_false, not_false_eq_true, gC2 (H1 P), Int32.le_refl, s1]
    exact ⟨(_, _), rfl⟩) P (mJ, mJ)
  have h00 : hO h r P = h := by unfold hO; rw [hset er]
  rw [h00] at e
  simp only [e_92_0, e_92_1, e_92_5, e_92_7, e_92_10, e_92_11, e_92_13, e_92_14, e_92_18, e_92_19, e_92_22, e_92_25, e_92_26, e_92_29, e_92_31, e_92_33, e_92_34, e_92_36, e_92_37, e_92_38, e_92_40, e_92_41, e_92_42, e_92_44, e_92_45, e_92_48, e_92_50, e_92_51, e_92_53, e_92_54, e_92_55, e_92_57, e_92_60, e_92_63, e_92_64, e_92_66, e_92_68, e_92_69, e_92_72, e_92_75, Option.bind_some, Option.bind_none, m_kt, m_kn, Option.toList_some, Option.toList_none, List.nil_append, List.cons_append, List.append_nil, ltn, ite_not, ↓reduceIte, true_or, or_true, nP1, oI_s, oI_n, bI_f, bI_t, i1_0, i0_0, Bool.false_eq_true, not_true_eq_false, not_false_eq_true]
  simp only [nI_0] at e
  obtain ⟨v, e⟩ := e
  refine e.trans ?_
  rw [e_92_3]
  simp only [e_92_0, e_92_1, e_92_5, e_92_7, e_92_10, e_92_11, e_92_13, e_92_14, e_92_18, e_92_19, e_92_22, e_92_25, e_92_26, e_92_29, e_92_31, e_92_33, e_92_34, e_92_36, e_92_37, e_92_38, e_92_40, e_92_41, e_92_42, e_92_44, e_92_45, e_92_48, e_92_50, e_92_51, e_92_53, e_92_54, e_92_55, e_92_57, e_92_60, e_92_63, e_92_64, e_92_66, e_92_68, e_92_69, e_92_72, e_92_75, Option.bind_some, Option.bind_none, m_kt, m_kn, Option.toList_some, Option.toList_none, List.nil_append, List.cons_append, List.append_nil, ltn, ite_not, ↓reduceIte, true_or, or_true, nP1, oI_s, oI_n, bI_f, bI_t, i1_0, i0_0, Bool.false_eq_true, not_true_eq_false, not_false_eq_true, (show ((24 : Int32) ≤ nI 24) = True by decide)]
  rfl
theorem rcS_0 {w g : Nat} {hd : Nat → Int32} {fr t : Nat} (h : rcS w g hd fr t = 0) : ∀ k, rcS w g hd fr (t + k) = 0
  | 0 => h
  | k + 1 => by
    have ih := rcS_0 h k
    rw [show t + (k + 1) = (t + k) + 1 from rfl, rcS, ih]
    apply b_ext
    intro i hi
    have z : arS w g 0 = 0 := by
      unfold arS abS
      have a : ∀ x : Int32, (0 : Int32) &&& x = 0 := fun x => by apply b_ext; intro i hi; rw [b_and, b_0, Bool.false_and]
      have b : ∀ x : Int32, (0 : Int32) <<< x = 0 := fun x => by
        apply Int32.toBitVec_inj.mp
        rw [Int32.toBitVec_shiftLeft]
        simp
      have c : ∀ x : Int32, (0 : Int32) >>> x = 0 := fun x => by
        apply Int32.toBitVec_inj.mp
        rw [Int32.toBitVec_shiftRight]
        simp
      rw [a, a, b, c, b, c]
      simp only [or_0, a]
    rw [b_and, z, b_0, Bool.false_and]
theorem and_comm32 (x y : Int32) : x &&& y = y &&& x := by apply b_ext; intro i hi; rw [b_and, b_and, Bool.and_comm]
def thk (OP OT : Nat → Int32) (st : Nat) (set : Int32) : Nat → Int32 := fun t => OP ((st + t) % 24) ||| (OT ((st + t) % 24) &&& set)
theorem hoursIfThick_ev (O : mO) (d : Nat) (H : CA h a W) (R : rng W) {fr to st : Nat} {L B BT OP OT : Nat → Int32} (K : WK h (nI fr) (nI to) (nI st) L B BT OP OT) (hfr : fr < pN W) (hto : to < pN W) (hst : st < 24) (set : Int32) : ev O (d + 1) 95 0 [.ref 56, .ref a, .int set, mJ, mJ, mJ] [] h = some (.inl (some (.int (oI (hoS (wN W) (gN W) (thk OP OT st set) fr to)))), h) := by
  have hN := pN_le R
  obtain ⟨e6, e7, e8, e9, e10, e11, e12⟩ := K
  have hh0 : ∀ t, ev O (d + 1) 95 32 [.ref 56, .ref a, .int set, .int (nI ((st + t) % 24)), .int 0, .int (nI t)] [] h = some (.inl (some (.int (-1))), h) := fun t => by
    rw [e_95_32]
    by_cases c : nI t ≤ 48 <;> simp only [e_95_0, e_95_1, e_95_4, e_95_5, e_95_6, e_95_7, e_95_10, e_95_11, e_95_12, e_95_15, e_95_16, e_95_17, e_95_18, e_95_21, e_95_22, e_95_23, e_95_24, e_95_25, e_95_26, e_95_27, e_95_29, e_95_30, e_95_34, e_95_36, e_95_39, e_95_41, e_95_44, e_95_46, e_95_47, e_95_50, e_95_51, e_95_52, e_95_53, e_95_56, e_95_58, e_95_59, e_95_60, e_95_63, e_95_64, e_95_66, e_95_67, e_95_69, e_95_72, e_95_73, e_95_74, e_95_77, e_95_78, e_95_79, e_95_80, e_95_83, e_95_84, e_95_85, e_95_86, e_95_87, e_95_88, e_95_89, e_95_91, e_95_94, e_95_97, e_95_98, Option.bind_some, Option.bind_none, m_kt, m_kn, Option.toList_some, Option.toList_none, List.nil_append, List.cons_append, List.append_nil, ltn, ite_not, ↓reduceIte, true_or, or_true, nP1, oI_s, oI_n, bI_f, bI_t, i1_0, i0_0, Bool.false_eq_true, not_true_eq_false, not_false_eq_true, c]
  have e := fd_runV (ν := Unit) (c := fun t => bt (rcS (wN W) (gN W) (thk OP OT st set) fr t) to) (n := 49) (F := fun t _ => ev O (d + 1) 95 32 [.ref 56, .ref a, .int set, .int (nI ((st + t) % 24)), .int (rcS (wN W) (gN W) (thk OP OT st set) fr t), .int (nI t)] [] h) (r := fun t => some (.inl (some (.int (nI t))), h)) (fun t _ ht => by
    have h1 : nI t ≤ 48 := nI_le (b := 48) (by omega) (by omega)
    by_cases c0 : rcS (wN W) (gN W) (thk OP OT st set) fr t = 0
    · have c1 : rcS (wN W) (gN W) (thk OP OT st set) fr (t + 1) = 0 := rcS_0 c0 1
      refine ⟨fun hc => ?_, fun _ => ⟨(), ?_⟩⟩
      · rw [c0, b_0] at hc; cases hc
      · rw [c0, c1, hh0, hh0]
    · have hb : (if nI ((st + t) % 24) = 23 then 0 else nI ((st + t) % 24) + 1) = nI ((st + (t + 1)) % 24) := by
        by_cases z : (st + t) % 24 = 23
        · rw [z, if_pos (show nI 23 = 23 from rfl), show (st + (t + 1)) % 24 = 0 by omega]; rfl
        · have : ¬ nI ((st + t) % 24) = 23 := fun q => z (by
            have := (nI_eq (show (st + t) % 24 < 2 ^ 31 by omega) (show 23 < 2 ^ 31 by omega)).mp q
            exact this)
          rw [if_neg this, nP1]
          congr 1; omega
      have hhb : ev O (d) 93 0 [.int (nI ((st + t) % 24))] [] h = some (.inl (some (.int (nI ((st + (t + 1)) % 24)))), h) := by
        rw [← hb]
        simp only [e_93_0, e_93_1, e_93_3, e_93_6, e_93_7, e_93_10, e_93_11, e_93_12, e_93_13]
        split <;> rfl
      have ai1 := ai_n e10 (show (st + (t + 1)) % 24 < 24 by omega) (by decide)
      have ai2 := ai_n e11 (show (st + (t + 1)) % 24 < 24 by omega) (by decide)
      rw [e_95_32]
      refine ⟨fun hc => ?_, fun hc => ⟨(), ?_⟩⟩
      · simp only [e_95_0, e_95_1, e_95_4, e_95_5, e_95_6, e_95_7, e_95_10, e_95_11, e_95_12, e_95_15, e_95_16, e_95_17, e_95_18, e_95_21, e_95_22, e_95_23, e_95_24, e_95_25, e_95_26, e_95_27, e_95_29, e_95_30, e_95_34, e_95_36, e_95_39, e_95_41, e_95_44, e_95_46, e_95_47, e_95_50, e_95_51, e_95_52, e_95_53, e_95_56, e_95_58, e_95_59, e_95_60, e_95_63, e_95_64, e_95_66, e_95_67, e_95_69, e_95_72, e_95_73, e_95_74, e_95_77, e_95_78, e_95_79, e_95_80, e_95_83, e_95_84, e_95_85, e_95_86, e_95_87, e_95_88, e_95_89, e_95_91, e_95_94, e_95_97, e_95_98, Option.bind_some, Option.bind_none, m_kt, m_kn, Option.toList_some, Option.toList_none, List.nil_append, List.cons_append, List.append_nil, ltn, ite_not, ↓reduceIte, true_or, or_true, nP1, oI_s, oI_n, bI_f, bI_t, i1_0, i0_0, Bool.false_eq_true, not_true_eq_false, not_false_eq_true, h1, c0, gW1 e6, has_t _ (show to < 32 by omega), hc]
      · simp only [e_95_0, e_95_1, e_95_4, e_95_5, e_95_6, e_95_7, e_95_10, e_95_11, e_95_12, e_95_15, e_95_16, e_95_17, e_95_18, e_95_21, e_95_22, e_95_23, e_95_24, e_95_25, e_95_26, e_95_27, e_95_29, e_95_30, e_95_34, e_95_36, e_95_39, e_95_41, e_95_44, e_95_46, e_95_47, e_95_50, e_95_51, e_95_52, e_95_53, e_95_56, e_95_58, e_95_59, e_95_60, e_95_63, e_95_64, e_95_66, e_95_67, e_95_69, e_95_72, e_95_73, e_95_74, e_95_77, e_95_78, e_95_79, e_95_80, e_95_83, e_95_84, e_95_85, e_95_86, e_95_87, e_95_88, e_95_89, e_95_91, e_95_94, e_95_97, e_95_98, Option.bind_some, Option.bind_none, m_kt, m_kn, Option.toList_some, Option.toList_none, List.nil_append, List.cons_append, List.append_nil, ltn, ite_not, ↓reduceIte, true_or, or_true, nP1, oI_s, oI_n, bI_f, bI_t, i1_0, i0_0, Bool.false_eq_true, not_true_eq_false, not_false_eq_true, h1, c0, gW1 e6, gW6 e6, gW7 e6, has_t _ (show to < 32 by omega), hc, hhb, H.isc, allBeside_ev O d H, ai1, ai2]
        rfl) ()
  have ai1 := ai_n e10 (show st < 24 by omega) (by decide)
  have ai2 := ai_n e11 (show st < 24 by omega) (by decide)
  have r0 : shl1 fr &&& (OP st ||| (OT st &&& set)) = rcS (wN W) (gN W) (thk OP OT st set) fr 0 := by
    rw [rcS, and_comm32]
    simp only [thk, Nat.add_zero, Nat.mod_eq_of_lt hst]
  simp only [e_95_0, e_95_1, e_95_4, e_95_5, e_95_6, e_95_7, e_95_10, e_95_11, e_95_12, e_95_15, e_95_16, e_95_17, e_95_18, e_95_21, e_95_22, e_95_23, e_95_24, e_95_25, e_95_26, e_95_27, e_95_29, e_95_30, e_95_34, e_95_36, e_95_39, e_95_41, e_95_44, e_95_46, e_95_47, e_95_50, e_95_51, e_95_52, e_95_53, e_95_56, e_95_58, e_95_59, e_95_60, e_95_63, e_95_64, e_95_66, e_95_67, e_95_69, e_95_72, e_95_73, e_95_74, e_95_77, e_95_78, e_95_79, e_95_80, e_95_83, e_95_84, e_95_85, e_95_86, e_95_87, e_95_88, e_95_89, e_95_91, e_95_94, e_95_97, e_95_98, Option.bind_some, Option.bind_none, m_kt, m_kn, Option.toList_some, Option.toList_none, List.nil_append, List.cons_append, List.append_nil, ltn, ite_not, ↓reduceIte, true_or, or_true, nP1, oI_s, oI_n, bI_f, bI_t, i1_0, i0_0, Bool.false_eq_true, not_true_eq_false, not_false_eq_true, gW0 e6, gW2 e6, gW6 e6, gW7 e6, ai1, ai2, shl_nI, r0]
  simp only [Nat.add_zero, Nat.mod_eq_of_lt hst, nI_0] at e
  unfold hoS
  rcases e with ⟨i, ei, e⟩ | ⟨en, -, e⟩
  · rw [ei]; exact e
  · rw [en]
    refine e.trans ?_
    rw [e_95_32]
    simp only [e_95_0, e_95_1, e_95_4, e_95_5, e_95_6, e_95_7, e_95_10, e_95_11, e_95_12, e_95_15, e_95_16, e_95_17, e_95_18, e_95_21, e_95_22, e_95_23, e_95_24, e_95_25, e_95_26, e_95_27, e_95_29, e_95_30, e_95_34, e_95_36, e_95_39, e_95_41, e_95_44, e_95_46, e_95_47, e_95_50, e_95_51, e_95_52, e_95_53, e_95_56, e_95_58, e_95_59, e_95_60, e_95_63, e_95_64, e_95_66, e_95_67, e_95_69, e_95_72, e_95_73, e_95_74, e_95_77, e_95_78, e_95_79, e_95_80, e_95_83, e_95_84, e_95_85, e_95_86, e_95_87, e_95_88, e_95_89, e_95_91, e_95_94, e_95_97, e_95_98, Option.bind_some, Option.bind_none, m_kt, m_kn, Option.toList_some, Option.toList_none, List.nil_append, List.cons_append, List.append_nil, ltn, ite_not, ↓reduceIte, true_or, or_true, nP1, oI_s, oI_n, bI_f, bI_t, i1_0, i0_0, Bool.false_eq_true, not_true_eq_false, not_false_eq_true, (show (nI 49 ≤ 48) = False by decide)]
end WalkC
