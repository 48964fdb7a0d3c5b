/-! A law becomes another -/
def LSh (h : mH) (a : Nat) (n us : Int32) (K F E D : Nat → Int32) : Prop := h.1[a]? = some (oL a n us) ∧ h.1[a + 1]? = some (aI 12 K) ∧ h.1[a + 2]? = some (aI 12 F) ∧ h.1[a + 3]? = some (aI 12 E) ∧ h.1[a + 4]? = some (aI 400 D)
def LB (a b : Nat) : Prop := a ≤ b ∧ b ≤ a + 4
theorem cpy_e {f g : Nat → Int32} {n i : Nat} (hi : i < n) : va_cpy f g 0 0 n i = f i := by rw [pk_cpy_in (by omega) (by omega), Nat.zero_add, Nat.sub_zero]
section LawB
variable {h : mH} {a b : Nat}
theorem lawBecome_ev (O : mO) (d : Nat) {n us n' us' : Int32} {K F E D K' F' E' D' : Nat → Int32} (A : LSh h a n us K F E D) (B : LSh h b n' us' K' F' E' D') (ab : a + 5 ≤ b ∨ b + 5 ≤ a) : ∃ h' K2 F2 E2 D2, ev O (d) 44 0 [.ref a, .ref b] [] h = some (.inl none, h') ∧ LSh h' a n' us' K2 F2 E2 D2 ∧ (∀ i, i < 12 → K2 i = K' i ∧ F2 i = F' i ∧ E2 i = E' i) ∧ (∀ i, i < 400 → D2 i = D' i) ∧ out (LB a) h h' := by
  obtain ⟨a0, a1, a2, a3, a4⟩ := A
  obtain ⟨b0, b1, b2, b3, b4⟩ := B
  let h1 : mH := (h.1.set a (oL a n' us), h.2)
  let h2 : mH := (h1.1.set a (oL a n' us'), h1.2)
  let h3 : mH := (h2.1.set (a + 1) (aI 12 (va_cpy K' K 0 0 12)), h2.2)
  let h4 : mH := (h3.1.set (a + 2) (aI 12 (va_cpy F' F 0 0 12)), h3.2)
  let h5 : mH := (h4.1.set (a + 3) (aI 12 (va_cpy E' E 0 0 12)), h4.2)
  let h6 : mH := (h5.1.set (a + 4) (aI 400 (va_cpy D' D 0 0 400)), h5.2)
  have o1 : out (LB a) h h1 := out.st h _ (by unfold LB; omega)
  have o2 : out (LB a) h h2 := o1.tr1 (out.st h1 _ (by unfold LB; omega))
  have o3 : out (LB a) h h3 := o2.tr1 (out.st h2 _ (by unfold LB; omega))
  have o4 : out (LB a) h h4 := o3.tr1 (out.st h3 _ (by unfold LB; omega))
  have o5 : out (LB a) h h5 := o4.tr1 (out.st h4 _ (by unfold LB; omega))
  have o6 : out (LB a) h h6 := o5.tr1 (out.st h5 _ (by unfold LB; omega))
  have nb : ∀ {h' : mH}, out (LB a) h h' → ∀ k, k < 5 → h'.1[b + k]? = h.1[b + k]? := fun o k hk => o.2.2 _ (by unfold LB; omega)
  have c1 : h1.1[a]? = some (oL a n' us) := hget a0
  have c2 : h2.1[a]? = some (oL a n' us') := hget c1
  have c3 : h3.1[a]? = some (oL a n' us') := (hne (by omega)).trans c2
  have c4 : h4.1[a]? = some (oL a n' us') := (hne (by omega)).trans c3
  have c5 : h5.1[a]? = some (oL a n' us') := (hne (by omega)).trans c4
  have c6 : h6.1[a]? = some (oL a n' us') := (hne (by omega)).trans c5
  have bo : ∀ {h' : mH}, out (LB a) h h' → h'.1[b]? = some (oL b n' us') := fun o => (nb o 0 (by omega)).trans b0
  have p1 : m_pf h a 2 0 (.int n') = some h1 := by simp only [m_pf, a0]; rfl
  have p2 : m_pf h1 a 2 5 (.int us') = some h2 := by simp only [m_pf, c1]; rfl
  have p3 : m_cp h2 (b + 1) 0 (a + 1) 0 12 = some h3 := cp_n (p := 0) (q := 0) (n := 12) ((nb o2 1 (by omega)).trans b1) (((hne (by omega)).trans (hne (by omega))).trans a1) (by omega) (by omega) (by decide) (by decide)
  have p4 : m_cp h3 (b + 2) 0 (a + 2) 0 12 = some h4 := cp_n (p := 0) (q := 0) (n := 12) ((nb o3 2 (by omega)).trans b2) ((((hne (by omega)).trans (hne (by omega))).trans (hne (by omega))).trans a2) (by omega) (by omega) (by decide) (by decide)
  have p5 : m_cp h4 (b + 3) 0 (a + 3) 0 12 = some h5 := cp_n (p := 0) (q := 0) (n := 12) ((nb o4 3 (by omega)).trans b3) (((((hne (by omega)).trans (hne (by omega))).trans (hne (by omega))).trans (hne (by omega))).trans a3) (by omega) (by omega) (by decide) (by decide)
  have p6 : m_cp h5 (b + 4) 0 (a + 4) 0 400 = some h6 := cp_n (p := 0) (q := 0) (n := 400) ((nb o5 4 (by omega)).trans b4) ((((((hne (by omega)).trans (hne (by omega))).trans (hne (by omega))).trans (hne (by omega))).trans (hne (by omega))).trans a4) (by omega) (by omega) (by decide) (by decide)
  refine ⟨h6, va_cpy K' K 0 0 12, va_cpy F' F 0 0 12, va_cpy E' E 0 0 12, va_cpy D' D 0 0 400, ?_, ⟨c6, ?_, ?_, ?_, ?_⟩, fun i hi => ⟨cpy_e hi, cpy_e hi, cpy_e hi⟩, fun i hi => cpy_e hi, o6⟩
  · simp only [e_44_0, e_44_1, e_44_2, e_44_5, e_44_8, e_44_9, e_44_10, e_44_13, e_44_16, e_44_17, e_44_20, e_44_21, e_44_22, e_44_25, e_44_26, e_44_28, e_44_31, e_44_32, e_44_35, e_44_36, e_44_37, e_44_40, e_44_41, e_44_43, e_44_46, e_44_47, e_44_50, e_44_51, e_44_52, e_44_55, e_44_56, e_44_58, e_44_61, e_44_62, e_44_65, e_44_66, e_44_67, e_44_70, e_44_71, e_44_74, e_44_77, Option.bind_some, Option.bind_none, m_kt, m_kn, Option.toList_some, Option.toList_none, List.nil_append, List.cons_append, List.append_nil, ltn, ite_not, ↓reduceIte, true_or, or_true, nP1, oI_s, oI_n, bI_f, bI_t, i1_0, i0_0, Bool.false_eq_true, not_true_eq_false, not_false_eq_true, gL0 b0, p1, gL5 (bo o1), p2, gL1 (bo o2), gL1 c2, p3, gL2 (bo o3), gL2 c3, p4, gL3 (bo o4), gL3 c4, p5, gL4 (bo o5), gL4 c5, p6]
  · exact (((hne (by omega)).trans (hne (by omega))).trans (hne (by omega))).trans (hget (c := aI 12 K) (((hne (by omega)).trans (hne (by omega))).trans a1))
  · exact ((hne (by omega)).trans (hne (by omega))).trans (hget (c := aI 12 F) ((((hne (by omega)).trans (hne (by omega))).trans (hne (by omega))).trans a2))
  · exact (hne (by omega)).trans (hget (c := aI 12 E) (((((hne (by omega)).trans (hne (by omega))).trans (hne (by omega))).trans (hne (by omega))).trans a3))
  · exact hget (c := aI 400 D) ((((((hne (by omega)).trans (hne (by omega))).trans (hne (by omega))).trans (hne (by omega))).trans (hne (by omega))).trans a4)
end LawB
/-- the shape of a law -/
def LF (h : mH) (a : Nat) : Prop := ∃ n us K F E D, LSh h a n us K F E D
theorem lawBec_ev {h : mH} {a b : Nat} (O : mO) (d : Nat) {W : WD} (A : LF h a) (B : LF h b) (ab : a + 5 ≤ b ∨ b + 5 ≤ a) (L : LA h b W) : ∃ h', ev O (d) 44 0 [.ref a, .ref b] [] h = some (.inl none, h') ∧ LA h' a W ∧ LF h' a ∧ out (LB a) h h' := by
  obtain ⟨n, us, K, F, E, D, A⟩ := A
  obtain ⟨n', us', K', F', E', D', B⟩ := B
  obtain ⟨h', K2, F2, E2, D2, e, P, q1, q2, o⟩ := lawBecome_ev O d A B ab
  refine ⟨h', e, ?_, ⟨_, _, _, _, _, _, P⟩, o⟩
  have inj : ∀ {x y u v : Int32}, some (oL b x u) = some (oL b y v) → x = y ∧ u = v := fun z => by
    simp only [oL, Option.some.injEq, Sum.inr.injEq, Prod.mk.injEq, List.cons.injEq, Value.int.injEq, true_and, and_true] at z
    exact z
  have inA : ∀ {k : Nat} {f g : Nat → Int32}, some (aI k f) = some (aI k g) → f = g := fun z => by
    simp only [aI, Option.some.injEq, Sum.inl.injEq, Prod.mk.injEq, true_and] at z
    exact z
  rcases L with ⟨w, nn, eb, X, u0, K0, F0, E0, D0, l0, l1, l2, l3, l4, l5, l6⟩ | ⟨w, u0, l0⟩
  · rw [B.1] at l0
    rw [B.2.1] at l1
    rw [B.2.2.1] at l2
    rw [B.2.2.2.1] at l3
    rw [B.2.2.2.2] at l4
    obtain ⟨rfl, rfl⟩ := inj l0
    have l1 := inA l1
    have l2 := inA l2
    have l3 := inA l3
    have l4 := inA l4
    subst l1 l2 l3 l4
    have n12 := X.1
    refine .inl ⟨w, nn, eb, X, _, K2, F2, E2, D2, P.1, P.2.1, P.2.2.1, P.2.2.2.1, P.2.2.2.2, fun i hi => ?_, fun j hj => ?_⟩
    · obtain ⟨z1, z2, z3⟩ := q1 i (by omega)
      rw [z1, z2, z3]
      exact l5 i hi
    · have := X.2.2.2.1 nn (Nat.le_refl _)
      rw [q2 j (by omega)]
      exact l6 j hj
  · rw [B.1] at l0
    obtain ⟨rfl, rfl⟩ := inj l0
    exact .inr ⟨w, _, P.1⟩
