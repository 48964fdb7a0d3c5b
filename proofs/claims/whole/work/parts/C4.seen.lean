/-! What may be seen -/
def fct (W : WD) (p : Nat) (hr : Int32) : Nat → Int32 := fun k => if k = 0 then W (7 + 6 * p) else if k = 1 then W (7 + 6 * p + 2) else if k = 2 then W (7 + 6 * p + 3) else if k = 3 then hr else if k = 4 then lgS W p hr else if k = 5 then W (7 + 6 * p + 4) else loadS W (nI p) hr
def trw (W : WD) (g : Nat → Int32) (i : Nat) : Bool := decide ((W (428 + 3 * i + 1)).toNatClampNeg = (W (428 + 3 * i + 2)).toNatClampNeg) || decide ((rnL W g (W (428 + 3 * i + 1)).toNatClampNeg ((W (428 + 3 * i + 2)).toNatClampNeg - (W (428 + 3 * i + 1)).toNatClampNeg)).headD 0 = 1)
def nLn (W : WD) : Nat := if W 4 = 1 then (W 427).toNatClampNeg else 0
def svI (W : WD) (p : Nat) (hr : Int32) : Nat → Bool := fun i => decide (W (428 + 3 * i) < 0) && trw W (fct W p hr) i
def sv (W : WD) (p : Nat) (hr : Int32) : Bool := (fd (svI W p hr) (nLn W)).elim (!decide (lgS W p hr ≤ 20)) (fun i => decide (W (428 + 3 * i) = -2))
def fnF (W : WD) (p : Nat) (hr : Int32) : Nat → Int32 → Int32 := fun i s => if (!decide (W (428 + 3 * i) < 0) && trw W (fct W p hr) i) = true then s + W (428 + 3 * i) else s
def fnV (W : WD) (p : Nat) (hr : Int32) : Int32 := if sv W p hr = true then lp (fnF W p hr) (nLn W) 0 else 0
theorem rn_cong {W : WD} {g g' : Nat → Int32} (h : ∀ k, k < 7 → g k = g' k) (b : Nat) : ∀ m, rnL W g b m = rnL W g' b m
  | 0 => rfl
  | m + 1 => by
    have ih := rn_cong (W := W) h b m
    unfold rnL at *
    rw [lp_s, lp_s, ih]
    unfold evL
    split
    · rename_i q; rw [h _ q]
    · rfl
theorem tru_w {W : WD} {n : Nat} {eb : Nat → Nat} (X : TXT W n eb) {g g' : Nat → Int32} (hg : ∀ k, k < 7 → g k = g' k) {i : Nat} (hi : i < n) : tru W g eb i = trw W g' i := by
  have q := X.2.2.2.2 i hi
  have a := X.2.2.2.1 i (by omega)
  have b := X.2.2.2.1 (i + 1) (by omega)
  unfold tru trw
  rw [q.2.1, q.2.2.1, nI_clamp (by omega), nI_clamp (by omega), rn_cong hg]
/-- the class's law for a world -/
def LA (h : mH) (a : Nat) (W : WD) : Prop := (W 4 = 1 ∧ ∃ n eb, TXT W n eb ∧ LC h a W n eb) ∨ (W 4 = 0 ∧ ∃ us, h.1[a]? = some (oL a (-1) us))
def hGS (h : mH) (a : Nat) (G S : Nat → Int32) : mH := hS (h.1.set (a + 5) (aI 7 G), h.2) a S
section SeenC
variable {h : mH} {a c : Nat} {W : WD}
theorem gather_ev (O : mO) (d : Nat) (H : CA h c W) (R : rng W) (hc : c < 20) (ha : a = 28 ∨ a = 35) {n us : Int32} (e0 : h.1[a]? = some (oL a n us)) {G0 : Nat → Int32} (e5 : h.1[a + 5]? = some (aI 7 G0)) {p : Nat} (hp : p < 30) (hr : Int32) : ∃ G, (∀ k, k < 7 → G k = fct W p hr k) ∧ ev O (d + 3) 47 0 [.ref a, .ref c, .int (nI p), .int hr] [] h = some (.inl none, (h.1.set (a + 5) (aI 7 G), h.2)) := by
  have Hx : ∀ G, CA ((h.1.set (a + 5) (aI 7 G), h.2) : mH) c W := fun G => H.out (A := fun b => b = a + 5) (out.st h _ rfl) (fun b hb => by omega)
  have gx : ∀ G, ((h.1.set (a + 5) (aI 7 G), h.2) : mH).1[a]? = some (oL a n us) := fun G => (hne (by omega)).trans e0
  have sx : ∀ G k x, k < 7 → m_si (h.1.set (a + 5) (aI 7 G), h.2) (a + 5) (nI k) x = some (h.1.set (a + 5) (aI 7 (upd G k x)), h.2) := fun G k x hk => by
    rw [si_n (hget e5) hk (by decide)]; simp only [List.set_set]
  have s0 : m_si h (a + 5) 0 (W (7 + 6 * p)) = some (h.1.set (a + 5) (aI 7 (upd G0 0 (W (7 + 6 * p)))), h.2) := si_n e5 (k := 0) (by omega) (by decide) _
  have s1 : ∀ G x, m_si (h.1.set (a + 5) (aI 7 G), h.2) (a + 5) 1 x = some (h.1.set (a + 5) (aI 7 (upd G 1 x)), h.2) := fun G x => sx G 1 x (by omega)
  have s2 : ∀ G x, m_si (h.1.set (a + 5) (aI 7 G), h.2) (a + 5) 2 x = some (h.1.set (a + 5) (aI 7 (upd G 2 x)), h.2) := fun G x => sx G 2 x (by omega)
  have s3 : ∀ G x, m_si (h.1.set (a + 5) (aI 7 G), h.2) (a + 5) 3 x = some (h.1.set (a + 5) (aI 7 (upd G 3 x)), h.2) := fun G x => sx G 3 x (by omega)
  have s4 : ∀ G x, m_si (h.1.set (a + 5) (aI 7 G), h.2) (a + 5) 4 x = some (h.1.set (a + 5) (aI 7 (upd G 4 x)), h.2) := fun G x => sx G 4 x (by omega)
  have s5 : ∀ G x, m_si (h.1.set (a + 5) (aI 7 G), h.2) (a + 5) 5 x = some (h.1.set (a + 5) (aI 7 (upd G 5 x)), h.2) := fun G x => sx G 5 x (by omega)
  have s6 : ∀ G x, m_si (h.1.set (a + 5) (aI 7 G), h.2) (a + 5) 6 x = some (h.1.set (a + 5) (aI 7 (upd G 6 x)), h.2) := fun G x => sx G 6 x (by omega)
  refine ⟨upd (upd (upd (upd (upd (upd (upd G0 0 (W (7 + 6 * p))) 1 (W (7 + 6 * p + 2))) 2 (W (7 + 6 * p + 3))) 3 hr) 4 (lgS W p hr)) 5 (W (7 + 6 * p + 4))) 6 (loadS W (nI p) hr), fun k hk => ?_, ?_⟩
  · have hk' : k = 0 ∨ k = 1 ∨ k = 2 ∨ k = 3 ∨ k = 4 ∨ k = 5 ∨ k = 6 := by omega
    rcases hk' with rfl | rfl | rfl | rfl | rfl | rfl | rfl <;> rfl
  · simp only [e_47_0, e_47_1, e_47_4, e_47_5, e_47_6, e_47_9, e_47_10, e_47_11, e_47_12, e_47_13, e_47_16, e_47_17, e_47_18, e_47_21, e_47_22, e_47_23, e_47_24, e_47_25, e_47_28, e_47_29, e_47_30, e_47_33, e_47_34, e_47_35, e_47_36, e_47_37, e_47_40, e_47_41, e_47_42, e_47_43, e_47_44, e_47_47, e_47_48, e_47_49, e_47_50, e_47_51, e_47_54, e_47_55, e_47_56, e_47_59, e_47_60, e_47_61, e_47_64, e_47_65, e_47_66, e_47_67, e_47_68, e_47_71, e_47_73, e_47_74, e_47_75, e_47_76, e_47_79, e_47_80, Option.bind_some, Option.bind_none, m_kt, m_kn, Option.toList_some, Option.toList_none, List.nil_append, List.cons_append, List.append_nil, ltn, ite_not, ↓reduceIte, true_or, or_true, nP1, oI_s, oI_n, bI_f, bI_t, i1_0, i0_0, Bool.false_eq_true, not_true_eq_false, not_false_eq_true, gL6 e0, gC6 H, H.t0 hp, s0, gL6 (gx _), gC8 (Hx _), (Hx _).t2 hp, s1, gC9 (Hx _), (Hx _).t3 hp, s2, s3, (Hx _).isc, lightBelow_ev O d (Hx _) hp, s4, gC10 (Hx _), (Hx _).t4 hp, s5, loadOn_ev O (d + 1) (Hx _) R, s6]
theorem lets_ev (O : mO) (d : Nat) (H : CA h c W) (R : rng W) (hc : c < 20) (ha : a = 28 ∨ a = 35) (S : SH h) (L : LA h a W) {p : Nat} (hp : p < 30) (hr : Int32) : ∃ G S', (∀ k, k < 7 → G k = fct W p hr k) ∧ ev O (d + 4) 45 0 [.ref a, .ref c, .int (nI p), .int hr, mJ] [] h = some (.inl (some (.int (bI (sv W p hr)))), hGS h a G S') := by
  obtain ⟨G0, e5⟩ : ∃ f, h.1[a + 5]? = some (aI 7 f) := by rcases ha with rfl | rfl <;> exact S.at (by decide)
  obtain ⟨S0, e6⟩ : ∃ f, h.1[a + 6]? = some (aI 20 f) := by rcases ha with rfl | rfl <;> exact S.at (by decide)
  obtain ⟨n0, us, e0⟩ : ∃ n us, h.1[a]? = some (oL a n us) := by
    rcases L with ⟨-, n, eb, -, us, K, F, E, D, l0, -⟩ | ⟨-, us, l0⟩
    · exact ⟨_, us, l0⟩
    · exact ⟨_, us, l0⟩
  obtain ⟨G, hG, eg⟩ := gather_ev O d H R hc ha e0 e5 hp hr
  let h1 : mH := (h.1.set (a + 5) (aI 7 G), h.2)
  have k0' : h1.1[a]? = some (oL a n0 us) := (hne (by omega)).trans e0
  have k5 : h1.1[a + 5]? = some (aI 7 G) := hget e5
  have k6 : h1.1[a + 6]? = some (aI 20 S0) := (hne (by omega)).trans e6
  have eg : ev O (d + 3) 47 0 [.ref a, .ref c, .int (nI p), .int hr] [] h = some (.inl none, h1) := eg
  have hh : ∀ S, hGS h a G S = hS h1 a S := fun _ => rfl
  have q0 : ∀ S, (hS h1 a S).1[a]? = some (oL a n0 us) := fun S => (hne (by omega)).trans k0'
  have q5 : ∀ S, (hS h1 a S).1[a + 5]? = some (aI 7 G) := fun S => (hne (by omega)).trans k5
  have h1S : hS h1 a S0 = h1 := by unfold hS; rw [hset k6]
  have g4 : ∀ S, m_ai (hS h1 a S) (a + 5) 4 = some (lgS W p hr) := fun S => by
    have := ai_n (q5 S) (k := 4) (by omega) (by decide)
    rw [hG 4 (by omega)] at this; exact this
  have fin : ∀ i S, n0 ≤ i → ev O (d + 4) 45 10 [.ref a, .ref c, .int (nI p), .int hr, .int i] [] (hS h1 a S) = some (.inl (some (.int (bI (!decide (lgS W p hr ≤ 20))))), hS h1 a S) := fun i S hi => by
    rw [e_45_10]
    by_cases q : lgS W p hr ≤ 20 <;> simp only [e_45_0, e_45_1, e_45_2, e_45_3, e_45_4, e_45_7, e_45_8, e_45_12, e_45_13, e_45_16, e_45_19, e_45_20, e_45_23, e_45_25, e_45_26, e_45_27, e_45_30, e_45_31, e_45_33, e_45_36, e_45_39, e_45_40, e_45_43, e_45_45, e_45_46, e_45_47, e_45_50, e_45_51, e_45_54, e_45_55, e_45_56, e_45_59, e_45_62, e_45_63, e_45_66, e_45_67, e_45_68, e_45_70, e_45_73, e_45_74, e_45_77, e_45_78, Option.bind_some, Option.bind_none, m_kt, m_kn, Option.toList_some, Option.toList_none, List.nil_append, List.cons_append, List.append_nil, ltn, ite_not, ↓reduceIte, true_or, or_true, nP1, oI_s, oI_n, bI_f, bI_t, i1_0, i0_0, Bool.false_eq_true, not_true_eq_false, not_false_eq_true, gL0 (q0 S), hi, gL6 (q0 S), g4, q, z01, o01, decide_true, decide_false, Bool.not_true, Bool.not_false]
  refine ⟨G, ?_⟩
  rcases L with ⟨w4, n, eb, X, L⟩ | ⟨w4, us', l0⟩
  · have L1 : LC h1 a W n eb := by
      obtain ⟨us, K, F, E, D, l0, l1, l2, l3, l4, l5⟩ := L
      exact ⟨us, K, F, E, D, (hne (by omega)).trans l0, (hne (by omega)).trans l1, (hne (by omega)).trans l2, (hne (by omega)).trans l3, (hne (by omega)).trans l4, l5⟩
    have nl : nLn W = n := by unfold nLn; rw [if_pos w4, X.2.1, nI_clamp (by have := X.1; omega)]
    have n12 := X.1
    obtain ⟨us1, K, F, E, D, l0, l1, l2, l3, l4, l5, l6⟩ := L1
    have en : n0 = nI n := by
      have := l0
      rw [k0'] at this
      simp only [oL, Option.some.injEq, Sum.inr.injEq, Prod.mk.injEq, List.cons.injEq, Value.int.injEq, true_and] at this
      exact this.1
    have L1 : LC h1 a W n eb := ⟨us1, K, F, E, D, l0, l1, l2, l3, l4, l5, l6⟩
    have e := fd_runE (ν := Nat → Int32) (c := svI W p hr) (n := n) (F := fun i S => ev O (d + 4) 45 10 [.ref a, .ref c, .int (nI p), .int hr, .int (nI i)] [] (hS h1 a S)) (E := fun i r => ∃ S', r = some (.inl (some (.int (bI (decide (W (428 + 3 * i) = -2))))), hS h1 a S')) (fun i S hi => by
      have c1 : ¬ n0 ≤ nI i := by rw [en]; exact nI_ge hi (by omega)
      obtain ⟨S', et⟩ := isTrue_ev O (d + 1) X L1 k5 k6 hi S
      rw [tru_w X hG hi] at et
      have q1 : ∀ S, (hS h1 a S).1[a + 1]? = some (aI 12 K) := fun S => (hne (by omega)).trans l1
      have gk : ∀ S, m_ai (hS h1 a S) (a + 1) (nI i) = some (K i) := fun S => ai_n (q1 S) (by omega) (by decide)
      unfold svI
      rw [e_45_10]
      rcases (l5 i hi).2 with ⟨a1, a2⟩ | ⟨a1, a2⟩ | ⟨f, f9, a1, a2, a3⟩
      · have lt : W (428 + 3 * i) < 0 := by rw [a1]; decide
        have ne : ¬ W (428 + 3 * i) = -2 := by rw [a1]; decide
        refine ⟨fun q => ⟨S', ?_⟩, fun q => ⟨S', ?_⟩⟩
        · have q : trw W (fct W p hr) i = true := by simpa [lt] using q
          simp only [e_45_0, e_45_1, e_45_2, e_45_3, e_45_4, e_45_7, e_45_8, e_45_12, e_45_13, e_45_16, e_45_19, e_45_20, e_45_23, e_45_25, e_45_26, e_45_27, e_45_30, e_45_31, e_45_33, e_45_36, e_45_39, e_45_40, e_45_43, e_45_45, e_45_46, e_45_47, e_45_50, e_45_51, e_45_54, e_45_55, e_45_56, e_45_59, e_45_62, e_45_63, e_45_66, e_45_67, e_45_68, e_45_70, e_45_73, e_45_74, e_45_77, e_45_78, Option.bind_some, Option.bind_none, m_kt, m_kn, Option.toList_some, Option.toList_none, List.nil_append, List.cons_append, List.append_nil, ltn, ite_not, ↓reduceIte, true_or, or_true, nP1, oI_s, oI_n, bI_f, bI_t, i1_0, i0_0, Bool.false_eq_true, not_true_eq_false, not_false_eq_true, gL0 (q0 _), c1, gL1 (q0 _), gk, a2, (show ¬ (0 : Int32) = 2 by decide), (show ¬ (0 : Int32) = 1 by decide), L_isc (q0 S), et, q, ne, z01, decide_false]
        · have q : trw W (fct W p hr) i = false := by simpa [lt] using q
          simp only [e_45_0, e_45_1, e_45_2, e_45_3, e_45_4, e_45_7, e_45_8, e_45_12, e_45_13, e_45_16, e_45_19, e_45_20, e_45_23, e_45_25, e_45_26, e_45_27, e_45_30, e_45_31, e_45_33, e_45_36, e_45_39, e_45_40, e_45_43, e_45_45, e_45_46, e_45_47, e_45_50, e_45_51, e_45_54, e_45_55, e_45_56, e_45_59, e_45_62, e_45_63, e_45_66, e_45_67, e_45_68, e_45_70, e_45_73, e_45_74, e_45_77, e_45_78, Option.bind_some, Option.bind_none, m_kt, m_kn, Option.toList_some, Option.toList_none, List.nil_append, List.cons_append, List.append_nil, ltn, ite_not, ↓reduceIte, true_or, or_true, nP1, oI_s, oI_n, bI_f, bI_t, i1_0, i0_0, Bool.false_eq_true, not_true_eq_false, not_false_eq_true, gL0 (q0 _), c1, gL1 (q0 _), gk, a2, (show ¬ (0 : Int32) = 2 by decide), L_isc (q0 S), et, q]
      · have lt : W (428 + 3 * i) < 0 := by rw [a1]; decide
        refine ⟨fun q => ⟨S', ?_⟩, fun q => ⟨S', ?_⟩⟩
        · have q : trw W (fct W p hr) i = true := by simpa [lt] using q
          simp only [e_45_0, e_45_1, e_45_2, e_45_3, e_45_4, e_45_7, e_45_8, e_45_12, e_45_13, e_45_16, e_45_19, e_45_20, e_45_23, e_45_25, e_45_26, e_45_27, e_45_30, e_45_31, e_45_33, e_45_36, e_45_39, e_45_40, e_45_43, e_45_45, e_45_46, e_45_47, e_45_50, e_45_51, e_45_54, e_45_55, e_45_56, e_45_59, e_45_62, e_45_63, e_45_66, e_45_67, e_45_68, e_45_70, e_45_73, e_45_74, e_45_77, e_45_78, Option.bind_some, Option.bind_none, m_kt, m_kn, Option.toList_some, Option.toList_none, List.nil_append, List.cons_append, List.append_nil, ltn, ite_not, ↓reduceIte, true_or, or_true, nP1, oI_s, oI_n, bI_f, bI_t, i1_0, i0_0, Bool.false_eq_true, not_true_eq_false, not_false_eq_true, gL0 (q0 _), c1, gL1 (q0 _), gk, a2, (show ¬ (1 : Int32) = 2 by decide), L_isc (q0 S), et, q, a1, o01, decide_true]
        · have q : trw W (fct W p hr) i = false := by simpa [lt] using q
          simp only [e_45_0, e_45_1, e_45_2, e_45_3, e_45_4, e_45_7, e_45_8, e_45_12, e_45_13, e_45_16, e_45_19, e_45_20, e_45_23, e_45_25, e_45_26, e_45_27, e_45_30, e_45_31, e_45_33, e_45_36, e_45_39, e_45_40, e_45_43, e_45_45, e_45_46, e_45_47, e_45_50, e_45_51, e_45_54, e_45_55, e_45_56, e_45_59, e_45_62, e_45_63, e_45_66, e_45_67, e_45_68, e_45_70, e_45_73, e_45_74, e_45_77, e_45_78, Option.bind_some, Option.bind_none, m_kt, m_kn, Option.toList_some, Option.toList_none, List.nil_append, List.cons_append, List.append_nil, ltn, ite_not, ↓reduceIte, true_or, or_true, nP1, oI_s, oI_n, bI_f, bI_t, i1_0, i0_0, Bool.false_eq_true, not_true_eq_false, not_false_eq_true, gL0 (q0 _), c1, gL1 (q0 _), gk, a2, (show ¬ (1 : Int32) = 2 by decide), L_isc (q0 S), et, q]
      · have nlt : ¬ W (428 + 3 * i) < 0 := by rw [a1]; exact nI_pos (by omega)
        refine ⟨fun q => (by rw [decide_eq_false nlt] at q; cases q), fun _ => ⟨S, ?_⟩⟩
        simp only [e_45_0, e_45_1, e_45_2, e_45_3, e_45_4, e_45_7, e_45_8, e_45_12, e_45_13, e_45_16, e_45_19, e_45_20, e_45_23, e_45_25, e_45_26, e_45_27, e_45_30, e_45_31, e_45_33, e_45_36, e_45_39, e_45_40, e_45_43, e_45_45, e_45_46, e_45_47, e_45_50, e_45_51, e_45_54, e_45_55, e_45_56, e_45_59, e_45_62, e_45_63, e_45_66, e_45_67, e_45_68, e_45_70, e_45_73, e_45_74, e_45_77, e_45_78, Option.bind_some, Option.bind_none, m_kt, m_kn, Option.toList_some, Option.toList_none, List.nil_append, List.cons_append, List.append_nil, ltn, ite_not, ↓reduceIte, true_or, or_true, nP1, oI_s, oI_n, bI_f, bI_t, i1_0, i0_0, Bool.false_eq_true, not_true_eq_false, not_false_eq_true, gL0 (q0 _), c1, gL1 (q0 _), gk, a2]) S0
    simp only [nI_0] at e
    rw [h1S] at e
    unfold sv
    rw [nl]
    rcases e with ⟨i, ei, S', e⟩ | ⟨en', S', e⟩
    · refine ⟨S', hG, ?_⟩
      rw [ei, hh]
      simp only [e_45_0, e_45_1, e_45_2, e_45_3, e_45_4, e_45_7, e_45_8, e_45_12, e_45_13, e_45_16, e_45_19, e_45_20, e_45_23, e_45_25, e_45_26, e_45_27, e_45_30, e_45_31, e_45_33, e_45_36, e_45_39, e_45_40, e_45_43, e_45_45, e_45_46, e_45_47, e_45_50, e_45_51, e_45_54, e_45_55, e_45_56, e_45_59, e_45_62, e_45_63, e_45_66, e_45_67, e_45_68, e_45_70, e_45_73, e_45_74, e_45_77, e_45_78, Option.bind_some, Option.bind_none, m_kt, m_kn, Option.toList_some, Option.toList_none, List.nil_append, List.cons_append, List.append_nil, ltn, ite_not, ↓reduceIte, true_or, or_true, nP1, oI_s, oI_n, bI_f, bI_t, i1_0, i0_0, Bool.false_eq_true, not_true_eq_false, not_false_eq_true, L_isc e0, eg]
      exact e
    · refine ⟨S', hG, ?_⟩
      rw [en', hh]
      simp only [e_45_0, e_45_1, e_45_2, e_45_3, e_45_4, e_45_7, e_45_8, e_45_12, e_45_13, e_45_16, e_45_19, e_45_20, e_45_23, e_45_25, e_45_26, e_45_27, e_45_30, e_45_31, e_45_33, e_45_36, e_45_39, e_45_40, e_45_43, e_45_45, e_45_46, e_45_47, e_45_50, e_45_51, e_45_54, e_45_55, e_45_56, e_45_59, e_45_62, e_45_63, e_45_66, e_45_67, e_45_68, e_45_70, e_45_73, e_45_74, e_45_77, e_45_78, Option.bind_some, Option.bind_none, m_kt, m_kn, Option.toList_some, Option.toList_none, List.nil_append, List.cons_append, List.append_nil, ltn, ite_not, ↓reduceIte, true_or, or_true, nP1, oI_s, oI_n, bI_f, bI_t, i1_0, i0_0, Bool.false_eq_true, not_true_eq_false, not_false_eq_true, L_isc e0, eg]
      exact e.trans (fin _ _ (by rw [en]; exact Int32.le_refl _))
  · have en : n0 = -1 := by
      rw [e0] at l0
      simp only [oL, Option.some.injEq, Sum.inr.injEq, Prod.mk.injEq, List.cons.injEq, Value.int.injEq, true_and] at l0
      exact l0.1
    have nl : nLn W = 0 := by unfold nLn; rw [if_neg (by rw [w4]; decide)]
    refine ⟨S0, hG, ?_⟩
    unfold sv
    rw [nl, hh]
    simp only [e_45_0, e_45_1, e_45_2, e_45_3, e_45_4, e_45_7, e_45_8, e_45_12, e_45_13, e_45_16, e_45_19, e_45_20, e_45_23, e_45_25, e_45_26, e_45_27, e_45_30, e_45_31, e_45_33, e_45_36, e_45_39, e_45_40, e_45_43, e_45_45, e_45_46, e_45_47, e_45_50, e_45_51, e_45_54, e_45_55, e_45_56, e_45_59, e_45_62, e_45_63, e_45_66, e_45_67, e_45_68, e_45_70, e_45_73, e_45_74, e_45_77, e_45_78, Option.bind_some, Option.bind_none, m_kt, m_kn, Option.toList_some, Option.toList_none, List.nil_append, List.cons_append, List.append_nil, ltn, ite_not, ↓reduceIte, true_or, or_true, nP1, oI_s, oI_n, bI_f, bI_t, i1_0, i0_0, Bool.false_eq_true, not_true_eq_false, not_false_eq_true, L_isc e0, eg]
    have := fin 0 S0 (by rw [en]; decide)
    rw [h1S] at this
    rw [h1S]
    exact this
end SeenC
