/-! The world as numbers (the reference's array): its sizes, ranges; City as the class keeps it -/
abbrev WD : Type := Nat → Int32
def wN (W : WD) : Nat := (W 0).toNatClampNeg
def gN (W : WD) : Nat := (W 1).toNatClampNeg
def pN (W : WD) : Nat := wN W * gN W
def kN (W : WD) : Nat := (W 2).toNatClampNeg
def sN (W : WD) : Nat := (W 5).toNatClampNeg
def bd (lo hi : Int) (x : Int32) : Prop := lo ≤ x.toInt ∧ x.toInt ≤ hi
def rngN (W : WD) : Prop := (W 0 = nI (wN W) ∧ 1 ≤ wN W ∧ wN W ≤ 6) ∧ (W 1 = nI (gN W) ∧ 1 ≤ gN W ∧ gN W ≤ 5) ∧ (W 2 = nI (kN W) ∧ kN W ≤ 12) ∧ (W 5 = nI (sN W) ∧ sN W ≤ 6) ∧ bd 0 10 (W 3) ∧ bd 0 100 (W 6)
def rngP (W : WD) : Prop := ∀ p, p < 30 → bd 1 9 (W (7 + 6 * p)) ∧ bd (-40) 60 (W (7 + 6 * p + 1)) ∧ bd 0 100 (W (7 + 6 * p + 2)) ∧ bd 0 3 (W (7 + 6 * p + 3)) ∧ bd 0 7 (W (7 + 6 * p + 4)) ∧ bd 0 99 (W (7 + 6 * p + 5))
def rngC (W : WD) : Prop := ∀ k, k < kN W → bd 1 200 (W (187 + 5 * k)) ∧ (∃ q, q < pN W ∧ W (187 + 5 * k + 1) = nI q) ∧ bd 0 23 (W (187 + 5 * k + 2)) ∧ bd 0 23 (W (187 + 5 * k + 3)) ∧ (W (187 + 5 * k + 4) = 0 ∨ W (187 + 5 * k + 4) = 1)
def rngO (W : WD) : Prop := ∀ i, i < 180 → bd 0 99 (W (247 + i))
def rng (W : WD) : Prop := rngN W ∧ rngP W ∧ rngC W ∧ rngO W
theorem pN_le {W : WD} (h : rng W) : pN W ≤ 30 := by
  have h1 := h.1.1.2.2
  have h2 := h.1.2.1.2.2
  exact Nat.mul_le_mul h1 h2
theorem pN_pos {W : WD} (h : rng W) : 1 ≤ pN W := Nat.mul_pos h.1.1.2.1 h.1.2.1.2.1
theorem kN_le {W : WD} (h : rng W) : kN W ≤ 12 := h.1.2.2.1.2
theorem sN_le {W : WD} (h : rng W) : sN W ≤ 6 := h.1.2.2.2.1.2
theorem rW0 {W : WD} (h : rng W) : W 0 = nI (wN W) := h.1.1.1
theorem rW1 {W : WD} (h : rng W) : W 1 = nI (gN W) := h.1.2.1.1
theorem rW2 {W : WD} (h : rng W) : W 2 = nI (kN W) := h.1.2.2.1.1
theorem rW5 {W : WD} (h : rng W) : W 5 = nI (sN W) := h.1.2.2.2.1.1
def shl1 (k : Nat) : Int32 := (1 : Int32) <<< (nI k &&& 31)
def allI (w g : Nat) : Int32 := shl1 (w * g) - 1
def lEd (w g : Nat) : Int32 := lp (fun y s => s ||| shl1 (w * y)) g 0
def rEd (w g : Nat) : Int32 := lEd w g <<< ((nI w - 1) &&& 31)
def fN (W : WD) : Nat → Int32 := fun k => match k with
  | 0 => nI (wN W)
  | 1 => nI (gN W)
  | 2 => nI (pN W)
  | 3 => allI (wN W) (gN W)
  | 4 => lEd (wN W) (gN W)
  | 5 => rEd (wN W) (gN W)
  | 12 => W 2
  | 14 => W 5
  | 16 => W 6
  | 17 => W 3
  | _ => 0
def oC (a : Nat) (n : Nat → Int32) : mC := .inr (0, [.int (n 0), .int (n 1), .int (n 2), .int (n 3), .int (n 4), .int (n 5), .ref (a + 1), .ref (a + 2), .ref (a + 3), .ref (a + 4), .ref (a + 5), .ref (a + 6), .int (n 12), .ref (a + 7), .int (n 14), .ref (a + 8), .int (n 16), .int (n 17)])
def CA (h : mH) (a : Nat) (W : WD) : Prop := h.1[a]? = some (oC a (fN W)) ∧ (∀ k, k < 6 → ∃ f, h.1[a + 1 + k]? = some (aI 30 f) ∧ ∀ p, p < 30 → f p = W (7 + 6 * p + k)) ∧ (∃ f, h.1[a + 7]? = some (aI 60 f) ∧ ∀ i, i < 5 * kN W → f i = W (187 + i)) ∧ (∃ f, h.1[a + 8]? = some (aI 180 f) ∧ ∀ i, i < 180 → f i = W (247 + i))
section City
variable {h : mH} {a : Nat} {W : WD}
theorem CA.isc (H : CA h a W) : m_isc h a 0 = true := by simp only [m_isc, H.1, oC]; rfl
theorem gC0 (H : CA h a W) : m_gf h a 0 0 = some (.int (nI (wN W))) := by simp only [m_gf, H.1, oC, ↓reduceIte]; rfl
theorem gC1 (H : CA h a W) : m_gf h a 0 1 = some (.int (nI (gN W))) := by simp only [m_gf, H.1, oC, ↓reduceIte]; rfl
theorem gC2 (H : CA h a W) : m_gf h a 0 2 = some (.int (nI (pN W))) := by simp only [m_gf, H.1, oC, ↓reduceIte]; rfl
theorem gC3 (H : CA h a W) : m_gf h a 0 3 = some (.int (allI (wN W) (gN W))) := by simp only [m_gf, H.1, oC, ↓reduceIte]; rfl
theorem gC4 (H : CA h a W) : m_gf h a 0 4 = some (.int (lEd (wN W) (gN W))) := by simp only [m_gf, H.1, oC, ↓reduceIte]; rfl
theorem gC5 (H : CA h a W) : m_gf h a 0 5 = some (.int (rEd (wN W) (gN W))) := by simp only [m_gf, H.1, oC, ↓reduceIte]; rfl
theorem gC6 (H : CA h a W) : m_gf h a 0 6 = some (.ref (a + 1)) := by simp only [m_gf, H.1, oC, ↓reduceIte]; rfl
theorem gC7 (H : CA h a W) : m_gf h a 0 7 = some (.ref (a + 2)) := by simp only [m_gf, H.1, oC, ↓reduceIte]; rfl
theorem gC8 (H : CA h a W) : m_gf h a 0 8 = some (.ref (a + 3)) := by simp only [m_gf, H.1, oC, ↓reduceIte]; rfl
theorem gC9 (H : CA h a W) : m_gf h a 0 9 = some (.ref (a + 4)) := by simp only [m_gf, H.1, oC, ↓reduceIte]; rfl
theorem gC10 (H : CA h a W) : m_gf h a 0 10 = some (.ref (a + 5)) := by simp only [m_gf, H.1, oC, ↓reduceIte]; rfl
theorem gC11 (H : CA h a W) : m_gf h a 0 11 = some (.ref (a + 6)) := by simp only [m_gf, H.1, oC, ↓reduceIte]; rfl
theorem gC12 (H : CA h a W) : m_gf h a 0 12 = some (.int (W 2)) := by simp only [m_gf, H.1, oC, ↓reduceIte]; rfl
theorem gC13 (H : CA h a W) : m_gf h a 0 13 = some (.ref (a + 7)) := by simp only [m_gf, H.1, oC, ↓reduceIte]; rfl
theorem gC14 (H : CA h a W) : m_gf h a 0 14 = some (.int (W 5)) := by simp only [m_gf, H.1, oC, ↓reduceIte]; rfl
theorem gC15 (H : CA h a W) : m_gf h a 0 15 = some (.ref (a + 8)) := by simp only [m_gf, H.1, oC, ↓reduceIte]; rfl
theorem gC16 (H : CA h a W) : m_gf h a 0 16 = some (.int (W 6)) := by simp only [m_gf, H.1, oC, ↓reduceIte]; rfl
theorem gC17 (H : CA h a W) : m_gf h a 0 17 = some (.int (W 3)) := by simp only [m_gf, H.1, oC, ↓reduceIte]; rfl
theorem CA.t0 (H : CA h a W) {p : Nat} (hp : p < 30) : m_ai h (a + 1) (nI p) = some (W (7 + 6 * p)) := by
  obtain ⟨f, e, q⟩ := H.2.1 0 (by omega); rw [ai_n e hp (by decide), q p hp]; rfl
theorem CA.t1 (H : CA h a W) {p : Nat} (hp : p < 30) : m_ai h (a + 2) (nI p) = some (W (7 + 6 * p + 1)) := by
  obtain ⟨f, e, q⟩ := H.2.1 1 (by omega); rw [ai_n e hp (by decide), q p hp]
theorem CA.t2 (H : CA h a W) {p : Nat} (hp : p < 30) : m_ai h (a + 3) (nI p) = some (W (7 + 6 * p + 2)) := by
  obtain ⟨f, e, q⟩ := H.2.1 2 (by omega); rw [ai_n e hp (by decide), q p hp]
theorem CA.t3 (H : CA h a W) {p : Nat} (hp : p < 30) : m_ai h (a + 4) (nI p) = some (W (7 + 6 * p + 3)) := by
  obtain ⟨f, e, q⟩ := H.2.1 3 (by omega); rw [ai_n e hp (by decide), q p hp]
theorem CA.t4 (H : CA h a W) {p : Nat} (hp : p < 30) : m_ai h (a + 5) (nI p) = some (W (7 + 6 * p + 4)) := by
  obtain ⟨f, e, q⟩ := H.2.1 4 (by omega); rw [ai_n e hp (by decide), q p hp]
theorem CA.t5 (H : CA h a W) {p : Nat} (hp : p < 30) : m_ai h (a + 6) (nI p) = some (W (7 + 6 * p + 5)) := by
  obtain ⟨f, e, q⟩ := H.2.1 5 (by omega); rw [ai_n e hp (by decide), q p hp]
theorem CA.k0 (H : CA h a W) (R : rng W) {k : Nat} (hk : k < kN W) : m_ai h (a + 7) (nI (5 * k)) = some (W (187 + 5 * k)) := by
  obtain ⟨f, e, q⟩ := H.2.2.1; have := kN_le R; rw [ai_n e (by omega) (by decide), q _ (by omega)]
theorem CA.k (H : CA h a W) (R : rng W) {k j : Nat} (hk : k < kN W) (hj : j < 5) : m_ai h (a + 7) (nI (5 * k + j)) = some (W (187 + 5 * k + j)) := by
  obtain ⟨f, e, q⟩ := H.2.2.1; have := kN_le R; rw [ai_n e (by omega) (by decide), q _ (by omega), Nat.add_assoc]
theorem CA.of (H : CA h a W) {i : Nat} (hi : i < 180) : m_ai h (a + 8) (nI i) = some (W (247 + i)) := by
  obtain ⟨f, e, q⟩ := H.2.2.2; rw [ai_n e hi (by decide), q i hi]
/-- is an hour from f to t, round midnight if t is less -/
def thenB (hr f t : Int32) : Bool := if f ≤ t then (if f ≤ hr then decide (hr ≤ t) else false) else (if f ≤ hr then true else decide (hr ≤ t))
theorem isThere_ev (O : mO) (d : Nat) (H : CA h a W) (R : rng W) {k : Nat} (hk : k < kN W) (hr : Int32) :
    ev O d 9 0 [.ref a, .int (nI k), .int hr, mJ, mJ] [] h = some (.inl (some (.int (bI (thenB hr (W (187 + 5 * k + 2)) (W (187 + 5 * k + 3)))))), h) := by
  simp only [e_9_0, e_9_1, e_9_4, e_9_5, e_9_6, e_9_7, e_9_8, e_9_9, e_9_10, e_9_11, e_9_12, e_9_15, e_9_16, e_9_17, e_9_18, e_9_19, e_9_20, e_9_21, e_9_23, e_9_24, e_9_26, e_9_29, e_9_30, e_9_31, e_9_34, e_9_35, e_9_37, e_9_40, e_9_41, e_9_44, e_9_45, e_9_48, e_9_49, e_9_50, e_9_53, e_9_54, e_9_56, e_9_59, e_9_60, e_9_63, e_9_64, gC13 H, Option.bind_some, Option.bind_none, m_kt, m_kn, Option.toList_some, Option.toList_none, List.nil_append, List.cons_append, List.append_nil, ltn, ite_not, ↓reduceIte, true_or, or_true, n5, nP2, nP3, H.k R hk (show 2 < 5 by omega), H.k R hk (show 3 < 5 by omega)]
  unfold thenB
  by_cases h1 : W (187 + 5 * k + 2) ≤ W (187 + 5 * k + 3) <;> by_cases h2 : W (187 + 5 * k + 2) ≤ hr <;> by_cases h3 : hr ≤ W (187 + 5 * k + 3) <;> simp [h1, h2, h3, bI]
def prs (W : WD) (k : Nat) : Int32 := if W (187 + 5 * k + 4) = 1 then W (187 + 5 * k) else 2 * W (187 + 5 * k)
theorem pressOf_ev (O : mO) (d : Nat) (H : CA h a W) (R : rng W) {k : Nat} (hk : k < kN W) :
    ev O d 10 0 [.ref a, .int (nI k), mJ] [] h = some (.inl (some (.int (prs W k))), h) := by
  simp only [e_10_0, e_10_1, e_10_4, e_10_5, e_10_6, e_10_7, e_10_8, e_10_9, e_10_10, e_10_13, e_10_14, e_10_15, e_10_16, e_10_17, e_10_18, e_10_19, e_10_20, e_10_23, e_10_24, e_10_27, e_10_28, e_10_29, e_10_30, gC13 H, Option.bind_some, Option.bind_none, m_kt, m_kn, Option.toList_some, Option.toList_none, List.nil_append, List.cons_append, List.append_nil, ltn, ite_not, ↓reduceIte, true_or, or_true, n5, nP4, H.k R hk (show 4 < 5 by omega), H.k0 R hk]
  unfold prs
  split <;> rfl
def loadS (W : WD) (p : Int32) (hr : Int32) : Int32 := lp (fun k s => if W (187 + 5 * k + 1) = p ∧ thenB hr (W (187 + 5 * k + 2)) (W (187 + 5 * k + 3)) = true then s + prs W k else s) (kN W) 0
theorem loadOn_ev (O : mO) (d : Nat) (H : CA h a W) (R : rng W) (p hr : Int32) :
    ev O (d + 1) 11 0 [.ref a, .int p, .int hr, mJ, mJ] [] h = some (.inl (some (.int (loadS W p hr))), h) := by
  have h12 := kN_le R
  have e := lp_run (F := fun i s => ev O (d + 1) 11 5 [.ref a, .int p, .int hr, .int s, .int (nI i)] [] h) (f := fun k s => if W (187 + 5 * k + 1) = p ∧ thenB hr (W (187 + 5 * k + 2)) (W (187 + 5 * k + 3)) = true then s + prs W k else s) (n := kN W) (fun i s hi => by
    have h1 : ¬ nI (kN W) ≤ nI i := nI_ge (by omega) (by omega)
    rw [e_11_5]
    simp only [e_11_0, e_11_1, e_11_2, e_11_3, e_11_7, e_11_8, e_11_11, e_11_14, e_11_15, e_11_18, e_11_19, e_11_21, e_11_22, e_11_23, e_11_24, e_11_25, e_11_26, e_11_29, e_11_30, e_11_32, e_11_33, e_11_36, e_11_39, e_11_40, e_11_41, e_11_43, e_11_46, e_11_47, e_11_48, e_11_51, e_11_54, e_11_55, gC12 H, gC13 H, rW2 R, h1, Option.bind_some, Option.bind_none, m_kt, m_kn, Option.toList_some, Option.toList_none, List.nil_append, List.cons_append, List.append_nil, ltn, ite_not, ↓reduceIte, true_or, or_true, n5, nP1, H.k R hi (show 1 < 5 by omega), H.isc, isThere_ev O d H R hi, pressOf_ev O d H R hi, bI_0]
    by_cases h2 : W (187 + 5 * i + 1) = p
    · cases h3 : thenB hr (W (187 + 5 * i + 2)) (W (187 + 5 * i + 3)) <;> simp [h2, h3]
    · simp [h2]) 0
  simp only [e_11_0, e_11_1, e_11_2, e_11_3, e_11_7, e_11_8, e_11_11, e_11_14, e_11_15, e_11_18, e_11_19, e_11_21, e_11_22, e_11_23, e_11_24, e_11_25, e_11_26, e_11_29, e_11_30, e_11_32, e_11_33, e_11_36, e_11_39, e_11_40, e_11_41, e_11_43, e_11_46, e_11_47, e_11_48, e_11_51, e_11_54, e_11_55, Option.bind_some, Option.bind_none, m_kt, m_kn, Option.toList_some, Option.toList_none, List.nil_append, List.cons_append, List.append_nil, ltn, ite_not, ↓reduceIte, true_or, or_true]
  simp only [nI_0] at e
  rw [e, e_11_5]
  simp only [e_11_0, e_11_1, e_11_2, e_11_3, e_11_7, e_11_8, e_11_11, e_11_14, e_11_15, e_11_18, e_11_19, e_11_21, e_11_22, e_11_23, e_11_24, e_11_25, e_11_26, e_11_29, e_11_30, e_11_32, e_11_33, e_11_36, e_11_39, e_11_40, e_11_41, e_11_43, e_11_46, e_11_47, e_11_48, e_11_51, e_11_54, e_11_55, gC12 H, rW2 R, Int32.le_refl, Option.bind_some, Option.bind_none, m_kt, m_kn, Option.toList_some, Option.toList_none, List.nil_append, List.cons_append, List.append_nil, ltn, ite_not, ↓reduceIte, true_or, or_true]
  rfl
end City
