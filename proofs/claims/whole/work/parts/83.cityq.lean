/-! The pure picture of a pane; City's questions -/
theorem z100 : ((100 : Int32) = 0) = False := by decide
theorem z12 : ((12 : Int32) = 0) = False := by decide
theorem z10 : ((10 : Int32) = 0) = False := by decide
theorem z24 : ((24 : Int32) = 0) = False := by decide
theorem z2 : ((2 : Int32) = 0) = False := by decide
theorem z4 : ((4 : Int32) = 0) = False := by decide
theorem zm1 : ((-1 : Int32) = 0) = False := by decide
theorem rP {W : WD} (R : rng W) {p : Nat} (hp : p < 30) : bd 1 9 (W (7 + 6 * p)) ∧ bd (-40) 60 (W (7 + 6 * p + 1)) ∧ bd 0 100 (W (7 + 6 * p + 2)) ∧ bd 0 3 (W (7 + 6 * p + 3)) ∧ bd 0 7 (W (7 + 6 * p + 4)) ∧ bd 0 99 (W (7 + 6 * p + 5)) := R.2.1 p hp
def brk (W : WD) (p : Nat) : Bool := decide (W (7 + 6 * p + 3) = 3)
theorem brk_le {W : WD} (R : rng W) {p : Nat} (hp : p < 30) : (3 ≤ W (7 + 6 * p + 3)) = (brk W p = true) := by
  have h := (rP R hp).2.2.2.1
  unfold brk
  rw [decide_eq_true_eq]
  unfold bd at h
  apply propext
  constructor
  · intro q
    rw [i_le] at q
    rw [← Int32.toInt_inj]
    have : (3 : Int32).toInt = 3 := by decide
    omega
  · intro q
    rw [q]
    decide
def beaT (W : WD) (p : Nat) (t : Int32) : Int32 := if brk W p = true then 0 else mx (10 * t * t - 30 * W (7 + 6 * p + 3) + mn (W (7 + 6 * p + 1)) 0) 0
def bea (W : WD) (p : Nat) : Int32 := beaT W p (W (7 + 6 * p))
def sunS (hr : Int32) : Int32 := if 6 ≤ hr then (if hr ≤ 18 then 100 - 12 * (if 0 ≤ hr - 12 then hr - 12 else 0 - (hr - 12)) else 0) else 0
def ldS (W : WD) (p : Nat) (hr : Int32) : Int32 := mx (sunS hr * (100 - W (7 + 6 * p + 2)) / 100 * (12 - W (7 + 6 * p)) / 12 - 5 * W (7 + 6 * p + 3)) 0
def lgS (W : WD) (p : Nat) (hr : Int32) : Int32 := ldS W p hr + W (7 + 6 * p + 5)
def hlB (W : WD) (p : Nat) (hr more : Int32) : Bool := !brk W p && decide (loadS W (nI p) hr + more ≤ bea W p)
def wcS (W : WD) (l : Int32) : Int32 := lp (fun p s => if l ≤ W (7 + 6 * p + 3) then s ||| shl1 p else s) (pN W) 0
def smS (W : WD) (k : Nat) : Int32 := lp (fun p s => s + W (7 + 6 * p + k)) (pN W) 0
section CityQ
variable {h : mH} {a : Nat} {W : WD}
theorem bearsT_ev (O : mO) (d : Nat) (H : CA h a W) (R : rng W) {p : Nat} (hp : p < 30) (t : Int32) :
    ev O (d) 8 0 [.ref a, .int (nI p), .int t, mJ] [] h = some (.inl (some (.int (beaT W p t))), h) := by
  simp only [e_8_0, e_8_1, e_8_4, e_8_5, e_8_6, e_8_7, e_8_10, e_8_11, e_8_12, e_8_14, e_8_15, e_8_16, e_8_17, e_8_18, e_8_20, e_8_21, e_8_24, e_8_25, e_8_26, e_8_27, e_8_28, e_8_29, e_8_32, e_8_33, e_8_34, e_8_35, e_8_38, e_8_39, e_8_40, e_8_41, e_8_42, e_8_45, Option.bind_some, Option.bind_none, m_kt, m_kn, Option.toList_some, Option.toList_none, List.nil_append, List.cons_append, List.append_nil, ltn, ite_not, ↓reduceIte, true_or, or_true, gC9 H, gC7 H, H.t3 hp, H.t1 hp, brk_le R hp]
  unfold beaT
  split <;> rfl
theorem bears_ev (O : mO) (d : Nat) (H : CA h a W) (R : rng W) {p : Nat} (hp : p < 30) :
    ev O (d + 1) 7 0 [.ref a, .int (nI p)] [] h = some (.inl (some (.int (bea W p))), h) := by
  simp only [e_7_0, e_7_1, e_7_2, e_7_3, e_7_6, e_7_7, e_7_8, e_7_11, Option.bind_some, Option.bind_none, m_kt, m_kn, Option.toList_some, Option.toList_none, List.nil_append, List.cons_append, List.append_nil, ltn, ite_not, ↓reduceIte, true_or, or_true, gC6 H, H.t0 hp, H.isc, bearsT_ev O d H R hp]
  rfl
theorem sun_ev (O : mO) (d : Nat) (h : mH) (hr : Int32) : ev O (d) 13 0 [.int hr] [] h = some (.inl (some (.int (sunS hr))), h) := by
  simp only [e_13_0, e_13_1, e_13_3, e_13_6, e_13_7, e_13_9, e_13_12, e_13_13, e_13_16, e_13_18, e_13_20, e_13_21, e_13_23, e_13_24, e_13_27, e_13_28, e_13_29, Option.bind_some, Option.bind_none, m_kt, m_kn, Option.toList_some, Option.toList_none, List.nil_append, List.cons_append, List.append_nil, ltn, ite_not, ↓reduceIte, true_or, or_true]
  unfold sunS
  by_cases h1 : 6 ≤ hr <;> by_cases h2 : hr ≤ 18 <;> simp only [h1, h2, ↓reduceIte]
theorem letDown_ev (O : mO) (d : Nat) (H : CA h a W) {p : Nat} (hp : p < 30) (hr : Int32) :
    ev O (d + 1) 14 0 [.ref a, .int (nI p), .int hr, mJ, mJ] [] h = some (.inl (some (.int (ldS W p hr))), h) := by
  simp only [e_14_0, e_14_1, e_14_4, e_14_6, e_14_7, e_14_10, e_14_11, e_14_12, e_14_13, e_14_14, e_14_16, e_14_17, e_14_18, e_14_19, e_14_21, e_14_22, e_14_25, e_14_26, e_14_27, e_14_28, e_14_29, e_14_31, e_14_32, e_14_34, e_14_36, e_14_37, e_14_38, e_14_41, e_14_42, e_14_43, e_14_44, e_14_45, e_14_46, e_14_49, Option.bind_some, Option.bind_none, m_kt, m_kn, Option.toList_some, Option.toList_none, List.nil_append, List.cons_append, List.append_nil, ltn, ite_not, ↓reduceIte, true_or, or_true, sun_ev, gC8 H, gC6 H, gC9 H, H.t0 hp, H.t2 hp, H.t3 hp, z100, z12]
  rfl
theorem lightBelow_ev (O : mO) (d : Nat) (H : CA h a W) {p : Nat} (hp : p < 30) (hr : Int32) :
    ev O (d + 2) 15 0 [.ref a, .int (nI p), .int hr] [] h = some (.inl (some (.int (lgS W p hr))), h) := by
  simp only [e_15_0, e_15_1, e_15_2, e_15_3, e_15_6, e_15_7, e_15_10, e_15_11, e_15_12, e_15_13, Option.bind_some, Option.bind_none, m_kt, m_kn, Option.toList_some, Option.toList_none, List.nil_append, List.cons_append, List.append_nil, ltn, ite_not, ↓reduceIte, true_or, or_true, letDown_ev O d H hp, gC11 H, H.t5 hp, H.isc]
  rfl
theorem holdsWith_ev (O : mO) (d : Nat) (H : CA h a W) (R : rng W) {p : Nat} (hp : p < 30) (hr more : Int32) :
    ev O (d + 2) 12 0 [.ref a, .int (nI p), .int hr, .int more] [] h = some (.inl (some (.int (bI (hlB W p hr more)))), h) := by
  simp only [e_12_0, e_12_1, e_12_4, e_12_5, e_12_6, e_12_7, e_12_10, e_12_11, e_12_12, e_12_13, e_12_16, e_12_17, e_12_18, e_12_19, e_12_20, e_12_23, e_12_26, e_12_27, e_12_30, e_12_31, Option.bind_some, Option.bind_none, m_kt, m_kn, Option.toList_some, Option.toList_none, List.nil_append, List.cons_append, List.append_nil, ltn, ite_not, ↓reduceIte, true_or, or_true, gC9 H, H.t3 hp, brk_le R hp, H.isc, loadOn_ev O d H R, bears_ev O d H R hp, z01, o01]
  unfold hlB
  cases brk W p
  · by_cases h2 : loadS W (nI p) hr + more ≤ bea W p <;> simp [h2, bI]
  · simp [bI]
theorem withCracks_ev (O : mO) (d : Nat) (H : CA h a W) (R : rng W) (l : Int32) :
    ev O (d) 5 0 [.ref a, .int l, mJ, mJ] [] h = some (.inl (some (.int (wcS W l))), h) := by
  have hN := pN_le R
  have e := lp_run (F := fun i s => ev O (d) 5 4 [.ref a, .int l, .int s, .int (nI i)] [] h) (f := fun p s => if l ≤ W (7 + 6 * p + 3) then s ||| shl1 p else s) (n := pN W) (fun i s hi => by
    have h1 : ¬ nI (pN W) ≤ nI i := nI_ge hi (by omega)
    rw [e_5_4]
    simp only [e_5_0, e_5_1, e_5_2, e_5_3, e_5_5, e_5_6, e_5_9, e_5_12, e_5_13, e_5_16, e_5_17, e_5_18, e_5_19, e_5_22, e_5_23, e_5_24, e_5_25, e_5_26, e_5_27, e_5_28, e_5_31, e_5_34, e_5_35, Option.bind_some, Option.bind_none, m_kt, m_kn, Option.toList_some, Option.toList_none, List.nil_append, List.cons_append, List.append_nil, ltn, ite_not, ↓reduceIte, true_or, or_true, gC2 H, gC9 H, h1, H.t3 (show i < 30 by omega), nP1]
    by_cases h2 : l ≤ W (7 + 6 * i + 3) <;> simp only [h2, ↓reduceIte] <;> rfl) 0
  simp only [e_5_0, e_5_1, e_5_2, e_5_3, e_5_5, e_5_6, e_5_9, e_5_12, e_5_13, e_5_16, e_5_17, e_5_18, e_5_19, e_5_22, e_5_23, e_5_24, e_5_25, e_5_26, e_5_27, e_5_28, e_5_31, e_5_34, e_5_35, Option.bind_some, Option.bind_none, m_kt, m_kn, Option.toList_some, Option.toList_none, List.nil_append, List.cons_append, List.append_nil, ltn, ite_not, ↓reduceIte, true_or, or_true]
  simp only [nI_0] at e
  rw [e, e_5_4]
  simp only [e_5_0, e_5_1, e_5_2, e_5_3, e_5_5, e_5_6, e_5_9, e_5_12, e_5_13, e_5_16, e_5_17, e_5_18, e_5_19, e_5_22, e_5_23, e_5_24, e_5_25, e_5_26, e_5_27, e_5_28, e_5_31, e_5_34, e_5_35, Option.bind_some, Option.bind_none, m_kt, m_kn, Option.toList_some, Option.toList_none, List.nil_append, List.cons_append, List.append_nil, ltn, ite_not, ↓reduceIte, true_or, or_true, gC2 H, Int32.le_refl]
  rfl
theorem sumOf_ev (O : mO) (d : Nat) (H : CA h a W) (R : rng W) {k : Nat} (hk : k < 6) :
    ev O (d) 6 0 [.ref a, .ref (a + 1 + k), mJ, mJ] [] h = some (.inl (some (.int (smS W k))), h) := by
  have hN := pN_le R
  obtain ⟨f, ha, hf⟩ := H.2.1 k hk
  have e := lp_run (F := fun i s => ev O (d) 6 4 [.ref a, .ref (a + 1 + k), .int s, .int (nI i)] [] h) (f := fun p s => s + W (7 + 6 * p + k)) (n := pN W) (fun i s hi => by
    have h1 : ¬ nI (pN W) ≤ nI i := nI_ge hi (by omega)
    rw [e_6_4]
    simp only [e_6_0, e_6_1, e_6_2, e_6_3, e_6_5, e_6_6, e_6_9, e_6_12, e_6_13, e_6_14, e_6_15, e_6_16, e_6_17, e_6_18, e_6_21, e_6_24, e_6_25, Option.bind_some, Option.bind_none, m_kt, m_kn, Option.toList_some, Option.toList_none, List.nil_append, List.cons_append, List.append_nil, ltn, ite_not, ↓reduceIte, true_or, or_true, gC2 H, h1, ai_n ha (show i < 30 by omega) (by decide), hf i (by omega), nP1]) 0
  simp only [e_6_0, e_6_1, e_6_2, e_6_3, e_6_5, e_6_6, e_6_9, e_6_12, e_6_13, e_6_14, e_6_15, e_6_16, e_6_17, e_6_18, e_6_21, e_6_24, e_6_25, Option.bind_some, Option.bind_none, m_kt, m_kn, Option.toList_some, Option.toList_none, List.nil_append, List.cons_append, List.append_nil, ltn, ite_not, ↓reduceIte, true_or, or_true]
  simp only [nI_0] at e
  rw [e, e_6_4]
  simp only [e_6_0, e_6_1, e_6_2, e_6_3, e_6_5, e_6_6, e_6_9, e_6_12, e_6_13, e_6_14, e_6_15, e_6_16, e_6_17, e_6_18, e_6_21, e_6_24, e_6_25, Option.bind_some, Option.bind_none, m_kt, m_kn, Option.toList_some, Option.toList_none, List.nil_append, List.cons_append, List.append_nil, ltn, ite_not, ↓reduceIte, true_or, or_true, gC2 H, Int32.le_refl]
  rfl
end CityQ
/-! Beside: by trying all cities -/
def besk (w g p : Nat) : Bool := decide (1 ≤ w → p < w * g → ((rEd w g >>> (nI p &&& 31)) &&& 1 = 0 ↔ p % w + 1 < w) ∧ ((lEd w g >>> (nI p &&& 31)) &&& 1 = 0 ↔ ¬ p % w = 0))
theorem besk_t : ∀ (w : Fin 7) (g : Fin 6) (p : Fin 30), besk w g p = true := by decide +kernel
theorem bes_ed {w g p : Nat} (hw : w < 7) (hg : g < 6) (hp : p < 30) (h1 : 1 ≤ w) (h2 : p < w * g) : ((rEd w g >>> (nI p &&& 31)) &&& 1 = 0 ↔ p % w + 1 < w) ∧ ((lEd w g >>> (nI p &&& 31)) &&& 1 = 0 ↔ ¬ p % w = 0) := of_decide_eq_true (besk_t ⟨w, hw⟩ ⟨g, hg⟩ ⟨p, hp⟩) h1 h2
section Beside
variable {h : mH} {a : Nat} {W : WD}
theorem beside_ev (O : mO) (d : Nat) (H : CA h a W) (R : rng W) {p s : Nat} (hp : p < pN W) (hs : s < 4) :
    ev O (d) 3 0 [.ref a, .int (nI p), .int (nI s)] [] h = some (.inl (some (.int (oI (bes (wN W) (gN W) p s)))), h) := by
  have hN := pN_le R
  have hw := R.1.1.2
  have hg := R.1.2.1.2
  have hb := bes_ed (show wN W < 7 by omega) (show gN W < 6 by omega) (show p < 30 by omega) hw.1 hp
  have hs' : s = 0 ∨ s = 1 ∨ s = 2 ∨ s = 3 := by omega
  rcases hs' with rfl | rfl | rfl | rfl
  · have t : (nI 0).toInt = 0 := by decide
    simp only [e_3_0, e_3_1, e_3_32, e_3_33, e_3_34, e_3_37, e_3_40, e_3_41, e_3_42, e_3_45, e_3_46, e_3_49, e_3_50, e_3_51, e_3_52, e_3_55, e_3_56, e_3_57, e_3_58, e_3_59, e_3_62, e_3_63, e_3_64, e_3_65, e_3_68, e_3_69, e_3_70, e_3_71, e_3_72, e_3_75, e_3_76, e_3_77, e_3_80, e_3_83, e_3_84, e_3_85, e_3_88, e_3_89, e_3_92, e_3_93, e_3_94, e_3_95, e_3_98, e_3_99, e_3_100, e_3_101, e_3_102, e_3_105, e_3_106, e_3_107, e_3_108, e_3_111, e_3_112, e_3_113, e_3_114, t]
    simp only [Int.lt_irrefl, ↓reduceIte, Int.sub_self, Int.toNat_zero, List.getD_cons_zero]
    simp only [e_3_0, e_3_1, e_3_32, e_3_33, e_3_34, e_3_37, e_3_40, e_3_41, e_3_42, e_3_45, e_3_46, e_3_49, e_3_50, e_3_51, e_3_52, e_3_55, e_3_56, e_3_57, e_3_58, e_3_59, e_3_62, e_3_63, e_3_64, e_3_65, e_3_68, e_3_69, e_3_70, e_3_71, e_3_72, e_3_75, e_3_76, e_3_77, e_3_80, e_3_83, e_3_84, e_3_85, e_3_88, e_3_89, e_3_92, e_3_93, e_3_94, e_3_95, e_3_98, e_3_99, e_3_100, e_3_101, e_3_102, e_3_105, e_3_106, e_3_107, e_3_108, e_3_111, e_3_112, e_3_113, e_3_114, Option.bind_some, Option.bind_none, m_kt, m_kn, Option.toList_some, Option.toList_none, List.nil_append, List.cons_append, List.append_nil, ltn, ite_not, ↓reduceIte, true_or, or_true, gC0 H, nLe (show wN W < 2 ^ 31 by omega) (show p < 2 ^ 31 by omega)]
    unfold bes
    by_cases h1 : wN W ≤ p
    · simp only [h1, ↓reduceIte, oI, pk_sub h1]
    · simp only [h1, ↓reduceIte, oI]
  · have t : (nI 1).toInt = 1 := by decide
    have t1 : ¬ (1 : Int) < 0 := by decide
    have t2 : [32, 51, 70, 94].getD ((1 : Int) - 0).toNat 113 = 51 := by decide
    simp only [e_3_0, e_3_1, e_3_32, e_3_33, e_3_34, e_3_37, e_3_40, e_3_41, e_3_42, e_3_45, e_3_46, e_3_49, e_3_50, e_3_51, e_3_52, e_3_55, e_3_56, e_3_57, e_3_58, e_3_59, e_3_62, e_3_63, e_3_64, e_3_65, e_3_68, e_3_69, e_3_70, e_3_71, e_3_72, e_3_75, e_3_76, e_3_77, e_3_80, e_3_83, e_3_84, e_3_85, e_3_88, e_3_89, e_3_92, e_3_93, e_3_94, e_3_95, e_3_98, e_3_99, e_3_100, e_3_101, e_3_102, e_3_105, e_3_106, e_3_107, e_3_108, e_3_111, e_3_112, e_3_113, e_3_114, t]
    simp only [t1, t2, ↓reduceIte]
    simp only [e_3_0, e_3_1, e_3_32, e_3_33, e_3_34, e_3_37, e_3_40, e_3_41, e_3_42, e_3_45, e_3_46, e_3_49, e_3_50, e_3_51, e_3_52, e_3_55, e_3_56, e_3_57, e_3_58, e_3_59, e_3_62, e_3_63, e_3_64, e_3_65, e_3_68, e_3_69, e_3_70, e_3_71, e_3_72, e_3_75, e_3_76, e_3_77, e_3_80, e_3_83, e_3_84, e_3_85, e_3_88, e_3_89, e_3_92, e_3_93, e_3_94, e_3_95, e_3_98, e_3_99, e_3_100, e_3_101, e_3_102, e_3_105, e_3_106, e_3_107, e_3_108, e_3_111, e_3_112, e_3_113, e_3_114, Option.bind_some, Option.bind_none, m_kt, m_kn, Option.toList_some, Option.toList_none, List.nil_append, List.cons_append, List.append_nil, ltn, ite_not, ↓reduceIte, true_or, or_true, gC5 H, hb.1]
    unfold bes
    by_cases h1 : p % wN W + 1 < wN W
    · simp only [h1, ↓reduceIte, oI, nP1]
    · simp only [h1, ↓reduceIte, oI]
  · have t : (nI 2).toInt = 2 := by decide
    have t1 : ¬ (2 : Int) < 0 := by decide
    have t2 : [32, 51, 70, 94].getD ((2 : Int) - 0).toNat 113 = 70 := by decide
    simp only [e_3_0, e_3_1, e_3_32, e_3_33, e_3_34, e_3_37, e_3_40, e_3_41, e_3_42, e_3_45, e_3_46, e_3_49, e_3_50, e_3_51, e_3_52, e_3_55, e_3_56, e_3_57, e_3_58, e_3_59, e_3_62, e_3_63, e_3_64, e_3_65, e_3_68, e_3_69, e_3_70, e_3_71, e_3_72, e_3_75, e_3_76, e_3_77, e_3_80, e_3_83, e_3_84, e_3_85, e_3_88, e_3_89, e_3_92, e_3_93, e_3_94, e_3_95, e_3_98, e_3_99, e_3_100, e_3_101, e_3_102, e_3_105, e_3_106, e_3_107, e_3_108, e_3_111, e_3_112, e_3_113, e_3_114, t]
    simp only [t1, t2, ↓reduceIte]
    simp only [e_3_0, e_3_1, e_3_32, e_3_33, e_3_34, e_3_37, e_3_40, e_3_41, e_3_42, e_3_45, e_3_46, e_3_49, e_3_50, e_3_51, e_3_52, e_3_55, e_3_56, e_3_57, e_3_58, e_3_59, e_3_62, e_3_63, e_3_64, e_3_65, e_3_68, e_3_69, e_3_70, e_3_71, e_3_72, e_3_75, e_3_76, e_3_77, e_3_80, e_3_83, e_3_84, e_3_85, e_3_88, e_3_89, e_3_92, e_3_93, e_3_94, e_3_95, e_3_98, e_3_99, e_3_100, e_3_101, e_3_102, e_3_105, e_3_106, e_3_107, e_3_108, e_3_111, e_3_112, e_3_113, e_3_114, Option.bind_some, Option.bind_none, m_kt, m_kn, Option.toList_some, Option.toList_none, List.nil_append, List.cons_append, List.append_nil, ltn, ite_not, ↓reduceIte, true_or, or_true, gC0 H, gC2 H, nA, nLe (show pN W < 2 ^ 31 by omega) (show p + wN W < 2 ^ 31 by omega)]
    unfold bes
    by_cases h1 : p + wN W < wN W * gN W
    · have h2 : ¬ pN W ≤ p + wN W := by unfold pN; omega
      simp only [h1, h2, ↓reduceIte, oI]
    · have h2 : pN W ≤ p + wN W := by unfold pN; omega
      simp only [h1, h2, ↓reduceIte, oI]
  · have t : (nI 3).toInt = 3 := by decide
    have t1 : ¬ (3 : Int) < 0 := by decide
    have t2 : [32, 51, 70, 94].getD ((3 : Int) - 0).toNat 113 = 94 := by decide
    simp only [e_3_0, e_3_1, e_3_32, e_3_33, e_3_34, e_3_37, e_3_40, e_3_41, e_3_42, e_3_45, e_3_46, e_3_49, e_3_50, e_3_51, e_3_52, e_3_55, e_3_56, e_3_57, e_3_58, e_3_59, e_3_62, e_3_63, e_3_64, e_3_65, e_3_68, e_3_69, e_3_70, e_3_71, e_3_72, e_3_75, e_3_76, e_3_77, e_3_80, e_3_83, e_3_84, e_3_85, e_3_88, e_3_89, e_3_92, e_3_93, e_3_94, e_3_95, e_3_98, e_3_99, e_3_100, e_3_101, e_3_102, e_3_105, e_3_106, e_3_107, e_3_108, e_3_111, e_3_112, e_3_113, e_3_114, t]
    simp only [t1, t2, ↓reduceIte]
    simp only [e_3_0, e_3_1, e_3_32, e_3_33, e_3_34, e_3_37, e_3_40, e_3_41, e_3_42, e_3_45, e_3_46, e_3_49, e_3_50, e_3_51, e_3_52, e_3_55, e_3_56, e_3_57, e_3_58, e_3_59, e_3_62, e_3_63, e_3_64, e_3_65, e_3_68, e_3_69, e_3_70, e_3_71, e_3_72, e_3_75, e_3_76, e_3_77, e_3_80, e_3_83, e_3_84, e_3_85, e_3_88, e_3_89, e_3_92, e_3_93, e_3_94, e_3_95, e_3_98, e_3_99, e_3_100, e_3_101, e_3_102, e_3_105, e_3_106, e_3_107, e_3_108, e_3_111, e_3_112, e_3_113, e_3_114, Option.bind_some, Option.bind_none, m_kt, m_kn, Option.toList_some, Option.toList_none, List.nil_append, List.cons_append, List.append_nil, ltn, ite_not, ↓reduceIte, true_or, or_true, gC4 H, hb.2]
    unfold bes
    by_cases h1 : p % wN W = 0
    · simp only [h1, not_true, ↓reduceIte, oI]
    · have h3 : 1 ≤ p := by
        rcases Nat.eq_zero_or_pos p with q | q
        · subst q; simp at h1
        · exact q
      simp only [h1, not_false_iff, ↓reduceIte, oI]
      rw [n_1, pk_sub h3]
def abS (w g : Nat) (s : Int32) : Int32 := ((s >>> (nI w &&& 31) ||| (s &&& (rEd w g ^^^ (-1))) <<< ((1 : Int32) &&& 31)) ||| s <<< (nI w &&& 31) ||| (s &&& (lEd w g ^^^ (-1))) >>> ((1 : Int32) &&& 31)) &&& allI w g
theorem allBeside_ev (O : mO) (d : Nat) (H : CA h a W) (s : Int32) :
    ev O (d) 4 0 [.ref a, .int s, mJ, mJ] [] h = some (.inl (some (.int (abS (wN W) (gN W) s))), h) := by
  simp only [e_4_0, e_4_1, e_4_2, e_4_5, e_4_6, e_4_7, e_4_8, e_4_9, e_4_10, e_4_11, e_4_12, e_4_13, e_4_16, e_4_17, e_4_18, e_4_19, e_4_20, e_4_21, e_4_22, e_4_23, e_4_24, e_4_27, e_4_28, e_4_29, e_4_30, e_4_31, e_4_32, e_4_35, e_4_36, e_4_37, e_4_38, e_4_39, e_4_40, e_4_43, e_4_44, Option.bind_some, Option.bind_none, m_kt, m_kn, Option.toList_some, Option.toList_none, List.nil_append, List.cons_append, List.append_nil, ltn, ite_not, ↓reduceIte, true_or, or_true, gC0 H, gC3 H, gC4 H, gC5 H]
  rfl
end Beside
