/-! A law's text: its lines and steps -/
def kk (W : WD) (j : Nat) : Nat := (W (464 + 2 * j)).toNatClampNeg
def xx (W : WD) (j : Nat) : Int32 := W (464 + 2 * j + 1)
def tyR (W : WD) (b m : Nat) : Option (List Bool) := lp (fun j o => o.bind (tyL (kk W (b + j)))) m (some [])
def rnL (W : WD) (g : Nat → Int32) (b m : Nat) : List Int32 := lp (fun j vs => evL g (kk W (b + j)) (xx W (b + j)) vs) m []
def hdK (W : WD) (i : Nat) : Prop := W (428 + 3 * i) = -1 ∨ W (428 + 3 * i) = -2 ∨ ∃ f, f ≤ 999 ∧ W (428 + 3 * i) = nI f
def TXT (W : WD) (n : Nat) (eb : Nat → Nat) : Prop := n ≤ 12 ∧ W 427 = nI n ∧ eb 0 = 0 ∧ (∀ i, i ≤ n → eb i ≤ 400) ∧ ∀ i, i < n → eb i ≤ eb (i + 1) ∧ W (428 + 3 * i + 1) = nI (eb i) ∧ W (428 + 3 * i + 2) = nI (eb (i + 1)) ∧ hdK W i ∧ (∀ j, eb i ≤ j → j < eb (i + 1) → kk W j ≤ 13 ∧ W (464 + 2 * j) = nI (kk W j) ∧ ∃ x, x ≤ 999 ∧ xx W j = nI x) ∧ (∀ m, m < eb (i + 1) - eb i → ∃ ts, tyR W (eb i) m = some ts ∧ ts.length < 20) ∧ (eb i < eb (i + 1) → tyR W (eb i) (eb (i + 1) - eb i) = some [true])
def tru (W : WD) (g : Nat → Int32) (eb : Nat → Nat) (i : Nat) : Bool := decide (eb i = eb (i + 1)) || decide ((rnL W g (eb i) (eb (i + 1) - eb i)).headD 0 = 1)
theorem ty_some {W : WD} {b : Nat} : ∀ m, (tyR W b m).isSome = true → ∀ k, k ≤ m → (tyR W b k).isSome = true
  | 0, h, k, hk => by
    have : k = 0 := by omega
    subst this; exact h
  | m + 1, h, k, hk => by
    by_cases z : k = m + 1
    · subst z; exact h
    · refine ty_some m ?_ k (by omega)
      have e : tyR W b (m + 1) = (tyR W b m).bind (tyL (kk W (b + m))) := rfl
      rw [e] at h
      cases q : tyR W b m with
      | none => rw [q] at h; cases h
      | some _ => rfl
/-- a condition's end: one truth on the stack -/
theorem rn_end {W : WD} {n : Nat} {eb : Nat → Nat} (X : TXT W n eb) (g : Nat → Int32) {i : Nat} (hi : i < n) (h : eb i < eb (i + 1)) : ∃ v, rnL W g (eb i) (eb (i + 1) - eb i) = [v] ∧ (v = 0 ∨ v = 1) := by
  obtain ⟨-, -, -, -, x5⟩ := X
  obtain ⟨x1, x2, x3, x4, x6, x7, x8⟩ := x5 i hi
  have key : ∀ m, m ≤ eb (i + 1) - eb i → ∃ ts, tyR W (eb i) m = some ts ∧ TV ts (rnL W g (eb i) m) := by
    intro m
    induction m with
    | zero => exact fun _ => ⟨[], rfl, trivial⟩
    | succ m ih =>
      intro hm
      obtain ⟨ts, e1, t1⟩ := ih (by omega)
      obtain ⟨k13, -, -⟩ := x6 (eb i + m) (by omega) (by omega)
      have e : tyR W (eb i) (m + 1) = (tyR W (eb i) m).bind (tyL (kk W (eb i + m))) := rfl
      have hs : (tyR W (eb i) (m + 1)).isSome = true := ty_some _ (by rw [x8 h]; rfl) _ hm
      rw [e, e1, Option.bind_some] at hs
      cases q : tyL (kk W (eb i + m)) ts with
      | none => rw [q] at hs; cases hs
      | some ts' => exact ⟨ts', by rw [e, e1]; exact q, ev_TV k13 q t1⟩
  obtain ⟨ts, e1, t1⟩ := key _ (Nat.le_refl _)
  rw [x8 h] at e1
  cases e1
  generalize rnL W g (eb i) (eb (i + 1) - eb i) = L at *
  match L, t1 with
  | [v], t1 => exact ⟨v, rfl, t1.1 rfl⟩
  | _ :: _ :: _, t1 => exact absurd t1.2 (by simp [TV])
def LC (h : mH) (a : Nat) (W : WD) (n : Nat) (eb : Nat → Nat) : Prop := ∃ us K F E D, h.1[a]? = some (oL a (nI n) us) ∧ h.1[a + 1]? = some (aI 12 K) ∧ h.1[a + 2]? = some (aI 12 F) ∧ h.1[a + 3]? = some (aI 12 E) ∧ h.1[a + 4]? = some (aI 400 D) ∧ (∀ i, i < n → E i = nI (eb (i + 1)) ∧ ((W (428 + 3 * i) = -1 ∧ K i = 0) ∨ (W (428 + 3 * i) = -2 ∧ K i = 1) ∨ (∃ f, f ≤ 999 ∧ W (428 + 3 * i) = nI f ∧ K i = 2 ∧ F i = nI f))) ∧ ∀ j, j < eb n → D j = cc (kk W j) (xx W j)
theorem eb_le {W : WD} {n : Nat} {eb : Nat → Nat} (X : TXT W n eb) : ∀ k i, i + k ≤ n → eb i ≤ eb (i + k)
  | 0, i, _ => Nat.le_refl _
  | k + 1, i, h => Nat.le_trans (eb_le X k i (by omega)) (X.2.2.2.2 (i + k) (by omega)).1
section TruC
variable {h : mH} {a : Nat} {W : WD} {n : Nat} {eb : Nat → Nat}
theorem isTrue_ev (O : mO) (d : Nat) (X : TXT W n eb) (L : LC h a W n eb) {G S0 : Nat → Int32} (e5 : h.1[a + 5]? = some (aI 7 G)) (e6 : h.1[a + 6]? = some (aI 20 S0)) {i : Nat} (hi : i < n) (S : Nat → Int32) : ∃ S', ev O (d + 2) 48 0 [.ref a, .int (nI i), mJ, mJ, mJ] [] (hS h a S) = some (.inl (some (.int (bI (tru W G eb i)))), hS h a S') := by
  have X0 := X
  obtain ⟨x0, xn, xz, x400, x5⟩ := X
  obtain ⟨x1, x2, x3, x4, x6, x7, x8⟩ := x5 i hi
  obtain ⟨us, K, F, E, D, l0, l1, l2, l3, l4, l5, l6⟩ := L
  have b1 := x400 (i + 1) (by omega)
  have g0 : ∀ S, (hS h a S).1[a]? = some (oL a (nI n) us) := fun S => (hne (by omega)).trans l0
  have g3 : ∀ S, (hS h a S).1[a + 3]? = some (aI 12 E) := fun S => (hne (by omega)).trans l3
  have g4 : ∀ S, (hS h a S).1[a + 4]? = some (aI 400 D) := fun S => (hne (by omega)).trans l4
  have g6 : ∀ S, (hS h a S).1[a + 6]? = some (aI 20 S) := fun S => hget e6
  have ge : ∀ S, m_ai (hS h a S) (a + 3) (nI i) = some (nI (eb (i + 1))) := fun S => by rw [ai_n (g3 S) (by omega) (by decide), (l5 i hi).1]
  have e17 : ev O (d + 2) 48 0 [.ref a, .int (nI i), mJ, mJ, mJ] [] (hS h a S) = ev O (d + 2) 48 17 [.ref a, .int (nI i), .int (nI (eb i)), mJ, mJ] [] (hS h a S) := by
    rcases Nat.eq_zero_or_pos i with z | z
    · subst z
      rw [xz]
      simp only [e_48_0, e_48_1, e_48_4, e_48_5, e_48_8, e_48_9, e_48_12, e_48_13, e_48_14, e_48_15, e_48_16, e_48_18, e_48_19, e_48_22, e_48_23, e_48_24, e_48_27, e_48_28, e_48_29, e_48_30, e_48_31, e_48_32, e_48_34, e_48_36, e_48_37, e_48_40, e_48_41, e_48_42, e_48_45, e_48_46, e_48_47, e_48_50, e_48_52, e_48_53, e_48_54, e_48_57, e_48_58, e_48_61, e_48_64, e_48_65, e_48_68, e_48_69, e_48_70, e_48_73, e_48_74, e_48_77, e_48_78, Option.bind_some, Option.bind_none, m_kt, m_kn, Option.toList_some, Option.toList_none, List.nil_append, List.cons_append, List.append_nil, ltn, ite_not, ↓reduceIte, true_or, or_true, nP1, oI_s, oI_n, bI_f, bI_t, i1_0, i0_0, Bool.false_eq_true, not_true_eq_false, not_false_eq_true, nI_0, m1m1, Nat.one_ne_zero, two_ne0]
    · obtain ⟨j, rfl⟩ : ∃ j, i = j + 1 := ⟨i - 1, by omega⟩
      have iz : ¬ nI (j + 1) = 0 := nI_ne0 (by omega) (by omega)
      have gj : m_ai (hS h a S) (a + 3) (nI j) = some (nI (eb (j + 1))) := by rw [ai_n (g3 S) (by omega) (by decide), (l5 j (by omega)).1]
      simp only [e_48_0, e_48_1, e_48_4, e_48_5, e_48_8, e_48_9, e_48_12, e_48_13, e_48_14, e_48_15, e_48_16, e_48_18, e_48_19, e_48_22, e_48_23, e_48_24, e_48_27, e_48_28, e_48_29, e_48_30, e_48_31, e_48_32, e_48_34, e_48_36, e_48_37, e_48_40, e_48_41, e_48_42, e_48_45, e_48_46, e_48_47, e_48_50, e_48_52, e_48_53, e_48_54, e_48_57, e_48_58, e_48_61, e_48_64, e_48_65, e_48_68, e_48_69, e_48_70, e_48_73, e_48_74, e_48_77, e_48_78, Option.bind_some, Option.bind_none, m_kt, m_kn, Option.toList_some, Option.toList_none, List.nil_append, List.cons_append, List.append_nil, ltn, ite_not, ↓reduceIte, true_or, or_true, nP1, oI_s, oI_n, bI_f, bI_t, i1_0, i0_0, Bool.false_eq_true, not_true_eq_false, not_false_eq_true, iz, gL3 (g0 S), nI_pred, gj]
  rw [e17]
  by_cases q : eb i = eb (i + 1)
  · refine ⟨S, ?_⟩
    have t : tru W G eb i = true := by unfold tru; rw [decide_eq_true q]; rfl
    rw [t]
    simp only [e_48_0, e_48_1, e_48_4, e_48_5, e_48_8, e_48_9, e_48_12, e_48_13, e_48_14, e_48_15, e_48_16, e_48_17, e_48_18, e_48_19, e_48_22, e_48_23, e_48_24, e_48_27, e_48_28, e_48_29, e_48_30, e_48_31, e_48_32, e_48_36, e_48_37, e_48_40, e_48_41, e_48_42, e_48_45, e_48_46, e_48_47, e_48_50, e_48_52, e_48_53, e_48_54, e_48_57, e_48_58, e_48_61, e_48_64, e_48_65, e_48_68, e_48_69, e_48_70, e_48_73, e_48_74, e_48_77, e_48_78, Option.bind_some, Option.bind_none, m_kt, m_kn, Option.toList_some, Option.toList_none, List.nil_append, List.cons_append, List.append_nil, ltn, ite_not, ↓reduceIte, true_or, or_true, nP1, oI_s, oI_n, bI_f, bI_t, i1_0, i0_0, Bool.false_eq_true, not_true_eq_false, not_false_eq_true, gL3 (g0 S), ge, eq_true (congrArg nI q), o01]
  · have ne : ¬ nI (eb i) = nI (eb (i + 1)) := fun z => q ((nI_eq (by omega) (by omega)).mp z)
    have e := lp_runJ (ν := Nat → Int32) (F := fun m (vs : List Int32) S => ev O (d + 2) 48 34 [.ref a, .int (nI i), .int (nI (eb i)), .int (nI vs.length), .int (nI (eb i + m))] [] (hS h a S)) (f := fun m vs => evL G (kk W (eb i + m)) (xx W (eb i + m)) vs) (n := eb (i + 1) - eb i) (fun m vs S => AR S vs ∧ ∃ ts, tyR W (eb i) m = some ts ∧ TV ts vs) (fun m vs S hm J => by
      obtain ⟨J1, ts, J2, J3⟩ := J
      have c1 : ¬ nI (eb (i + 1)) ≤ nI (eb i + m) := nI_ge (by omega) (by omega)
      obtain ⟨k13, -, j, hj, ej⟩ := x6 (eb i + m) (by omega) (by omega)
      obtain ⟨ts2, q1, q2⟩ := x7 m hm
      rw [J2] at q1
      cases q1
      have ee : tyR W (eb i) (m + 1) = (tyR W (eb i) m).bind (tyL (kk W (eb i + m))) := rfl
      have hs : (tyR W (eb i) (m + 1)).isSome = true := ty_some _ (by rw [x8 (by omega)]; rfl) _ (by omega)
      rw [ee, J2, Option.bind_some] at hs
      cases ht : tyL (kk W (eb i + m)) ts with
      | none => rw [ht] at hs; cases hs
      | some ts' =>
        have vl := TV_len J3
        obtain ⟨S', A', ea⟩ := apply_ev O d l0 e5 e6 k13 (fun _ => ⟨j, hj, ej⟩) ht J3 (by omega) S J1
        have gd : m_ai (hS h a S) (a + 4) (nI (eb i + m)) = some (cc (kk W (eb i + m)) (xx W (eb i + m))) := by
          have := eb_le X0 (n - (i + 1)) (i + 1) (by omega)
          rw [show i + 1 + (n - (i + 1)) = n by omega] at this
          rw [ai_n (g4 S) (by omega) (by decide), l6 _ (by omega)]
        refine ⟨S', ⟨A', ts', by rw [ee, J2]; exact ht, ev_TV k13 ht J3⟩, ?_⟩
        rw [e_48_34]
        simp only [e_48_0, e_48_1, e_48_4, e_48_5, e_48_8, e_48_9, e_48_12, e_48_13, e_48_14, e_48_15, e_48_16, e_48_17, e_48_18, e_48_19, e_48_22, e_48_23, e_48_24, e_48_27, e_48_28, e_48_29, e_48_30, e_48_31, e_48_32, e_48_36, e_48_37, e_48_40, e_48_41, e_48_42, e_48_45, e_48_46, e_48_47, e_48_50, e_48_52, e_48_53, e_48_54, e_48_57, e_48_58, e_48_61, e_48_64, e_48_65, e_48_68, e_48_69, e_48_70, e_48_73, e_48_74, e_48_77, e_48_78, Option.bind_some, Option.bind_none, m_kt, m_kn, Option.toList_some, Option.toList_none, List.nil_append, List.cons_append, List.append_nil, ltn, ite_not, ↓reduceIte, true_or, or_true, nP1, oI_s, oI_n, bI_f, bI_t, i1_0, i0_0, Bool.false_eq_true, not_true_eq_false, not_false_eq_true, gL3 (g0 S), ge, c1, gL4 (g0 S), gd, L_isc (g0 S), ea]
        rfl) [] S ⟨trivial, [], rfl, trivial⟩
    obtain ⟨S', ⟨A', -⟩, e⟩ := e
    obtain ⟨v, rv, v01⟩ := rn_end X0 G hi (by omega)
    have rl : lp (fun m vs => evL G (kk W (eb i + m)) (xx W (eb i + m)) vs) (eb (i + 1) - eb i) [] = [v] := rv
    rw [rl] at e A'
    have s0 : m_ai (hS h a S') (a + 6) 0 = some v := by
      have := ai_n (g6 S') (k := 0) (by omega) (by decide)
      rw [show S' 0 = v from A'.1] at this; exact this
    have t : tru W G eb i = decide (v = 1) := by unfold tru; rw [decide_eq_false q, rv]; rfl
    rw [t]
    refine ⟨S', ?_⟩
    simp only [Nat.add_zero, List.length_nil, nI_0] at e
    simp only [e_48_0, e_48_1, e_48_4, e_48_5, e_48_8, e_48_9, e_48_12, e_48_13, e_48_14, e_48_15, e_48_16, e_48_17, e_48_18, e_48_19, e_48_22, e_48_23, e_48_24, e_48_27, e_48_28, e_48_29, e_48_30, e_48_31, e_48_32, e_48_36, e_48_37, e_48_40, e_48_41, e_48_42, e_48_45, e_48_46, e_48_47, e_48_50, e_48_52, e_48_53, e_48_54, e_48_57, e_48_58, e_48_61, e_48_64, e_48_65, e_48_68, e_48_69, e_48_70, e_48_73, e_48_74, e_48_77, e_48_78, Option.bind_some, Option.bind_none, m_kt, m_kn, Option.toList_some, Option.toList_none, List.nil_append, List.cons_append, List.append_nil, ltn, ite_not, ↓reduceIte, true_or, or_true, nP1, oI_s, oI_n, bI_f, bI_t, i1_0, i0_0, Bool.false_eq_true, not_true_eq_false, not_false_eq_true, gL3 (g0 S), ge, ne]
    refine e.trans ?_
    rw [show eb i + (eb (i + 1) - eb i) = eb (i + 1) by omega, e_48_34]
    rcases v01 with rfl | rfl
    · simp only [e_48_0, e_48_1, e_48_4, e_48_5, e_48_8, e_48_9, e_48_12, e_48_13, e_48_14, e_48_15, e_48_16, e_48_17, e_48_18, e_48_19, e_48_22, e_48_23, e_48_24, e_48_27, e_48_28, e_48_29, e_48_30, e_48_31, e_48_32, e_48_36, e_48_37, e_48_40, e_48_41, e_48_42, e_48_45, e_48_46, e_48_47, e_48_50, e_48_52, e_48_53, e_48_54, e_48_57, e_48_58, e_48_61, e_48_64, e_48_65, e_48_68, e_48_69, e_48_70, e_48_73, e_48_74, e_48_77, e_48_78, Option.bind_some, Option.bind_none, m_kt, m_kn, Option.toList_some, Option.toList_none, List.nil_append, List.cons_append, List.append_nil, ltn, ite_not, ↓reduceIte, true_or, or_true, nP1, oI_s, oI_n, bI_f, bI_t, i1_0, i0_0, Bool.false_eq_true, not_true_eq_false, not_false_eq_true, gL3 (g0 S'), ge, Int32.le_refl, gL7 (g0 S'), s0, z01]
      rfl
    · simp only [e_48_0, e_48_1, e_48_4, e_48_5, e_48_8, e_48_9, e_48_12, e_48_13, e_48_14, e_48_15, e_48_16, e_48_17, e_48_18, e_48_19, e_48_22, e_48_23, e_48_24, e_48_27, e_48_28, e_48_29, e_48_30, e_48_31, e_48_32, e_48_36, e_48_37, e_48_40, e_48_41, e_48_42, e_48_45, e_48_46, e_48_47, e_48_50, e_48_52, e_48_53, e_48_54, e_48_57, e_48_58, e_48_61, e_48_64, e_48_65, e_48_68, e_48_69, e_48_70, e_48_73, e_48_74, e_48_77, e_48_78, Option.bind_some, Option.bind_none, m_kt, m_kn, Option.toList_some, Option.toList_none, List.nil_append, List.cons_append, List.append_nil, ltn, ite_not, ↓reduceIte, true_or, or_true, nP1, oI_s, oI_n, bI_f, bI_t, i1_0, i0_0, Bool.false_eq_true, not_true_eq_false, not_false_eq_true, gL3 (g0 S'), ge, Int32.le_refl, gL7 (g0 S'), s0, o01]
      rfl
end TruC
