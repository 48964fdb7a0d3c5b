/-! Acts that are remembered -/
def oP (a l : Int32) : mC := .inr (4, [.int a, .int l, .ref 52, .ref 53, .ref 54])
theorem gP0 {h : mH} {a l : Int32} (H : h.1[51]? = some (oP a l)) : m_gf h 51 4 0 = some (.int a) := by simp only [m_gf, H, oP, ↓reduceIte]; rfl
theorem gP1 {h : mH} {a l : Int32} (H : h.1[51]? = some (oP a l)) : m_gf h 51 4 1 = some (.int l) := by simp only [m_gf, H, oP, ↓reduceIte]; rfl
theorem gP2 {h : mH} {a l : Int32} (H : h.1[51]? = some (oP a l)) : m_gf h 51 4 2 = some (.ref 52) := by simp only [m_gf, H, oP, ↓reduceIte]; rfl
theorem gP3 {h : mH} {a l : Int32} (H : h.1[51]? = some (oP a l)) : m_gf h 51 4 3 = some (.ref 53) := by simp only [m_gf, H, oP, ↓reduceIte]; rfl
theorem gP4 {h : mH} {a l : Int32} (H : h.1[51]? = some (oP a l)) : m_gf h 51 4 4 = some (.ref 54) := by simp only [m_gf, H, oP, ↓reduceIte]; rfl
theorem pP0 {h : mH} {a l : Int32} (H : h.1[51]? = some (oP a l)) (x : Int32) : m_pf h 51 4 0 (.int x) = some (h.1.set 51 (oP x l), h.2) := by simp only [m_pf, H]; rfl
theorem pP1 {h : mH} {a l : Int32} (H : h.1[51]? = some (oP a l)) (x : Int32) : m_pf h 51 4 1 (.int x) = some (h.1.set 51 (oP a x), h.2) := by simp only [m_pf, H]; rfl
theorem cp_n {h : mH} {a b n0 n1 p q n : Nat} {f g : Nat → Int32} (ha : h.1[a]? = some (aI n0 f)) (hb : h.1[b]? = some (aI n1 g)) (h0 : p + n ≤ n0) (h1 : q + n ≤ n1) (hn0 : n0 < 2 ^ 31) (hn1 : n1 < 2 ^ 31) : m_cp h a (nI p) b (nI q) (nI n) = some (h.1.set b (aI n1 (va_cpy f g p q n)), h.2) := by
  simp only [m_cp, ha, hb]
  rw [nI_clamp (by omega), nI_clamp (by omega), nI_clamp (by omega), if_neg]
  rintro ((q | q | q) | q | q)
  · exact nI_pos (by omega) q
  · exact nI_pos (by omega) q
  · exact nI_pos (by omega) q
  · omega
  · omega
def PC (h : mH) (r l : Nat) (A B C : Nat → Int32) : Prop := h.1[51]? = some (oP (nI r) (nI l)) ∧ h.1[52]? = some (aI 360 A) ∧ h.1[53]? = some (aI 360 B) ∧ h.1[54]? = some (aI 360 C)
def PS (b : Nat) : Prop := 51 ≤ b ∧ b ≤ 54
/-- a row with another slot -/
def slot (l k : Nat) (W : WD) (A A' : Nat → Int32) : Prop := (∀ p, p < 30 → A' (30 * l + p) = W (7 + 6 * p + k)) ∧ ∀ i, (i < 30 * l ∨ 30 * l + 30 ≤ i) → A' i = A i
theorem slot_cpy {l k : Nat} {W : WD} {f A : Nat → Int32} (hf : ∀ p, p < 30 → f p = W (7 + 6 * p + k)) : slot l k W A (va_cpy f A 0 (30 * l) 30) := by
  refine ⟨fun p hp => ?_, fun i hi => pk_cpy_out (by omega)⟩
  rw [pk_cpy_in (by omega) (by omega), ← hf p hp]
  congr 1
  omega
section PastC
variable {h : mH} {a : Nat} {W : WD}
theorem P_isc {r l : Nat} {A B C : Nat → Int32} (P : PC h r l A B C) : m_isc h 51 4 = true := by simp only [m_isc, P.1, oP]; rfl
theorem remember_ev (O : mO) (d : Nat) (H : CA h a W) (ha : a < 28) {r l : Nat} {A B C : Nat → Int32} (P : PC h r l A B C) (hr : r ≤ 12) (hl : l < 12) : ∃ h' A' B' C', ev O (d) 73 0 [.ref 51, .ref a, mJ] [] h = some (.inl none, h') ∧ out PS h h' ∧ PC h' (min (r + 1) 12) ((l + 1) % 12) A' B' C' ∧ slot ((l + 1) % 12) 1 W A A' ∧ slot ((l + 1) % 12) 2 W B B' ∧ slot ((l + 1) % 12) 3 W C C' := by
  obtain ⟨p1, p2, p3, p4⟩ := P
  obtain ⟨f1, t1, q1⟩ := H.2.1 1 (by omega)
  obtain ⟨f2, t2, q2⟩ := H.2.1 2 (by omega)
  obtain ⟨f3, t3, q3⟩ := H.2.1 3 (by omega)
  have el : nI l + 1 - (nI l + 1) / 12 * 12 = nI ((l + 1) % 12) := by rw [nP1]; exact pk_rem (d := 12) (by omega) (by omega) (by omega)
  have el' : nI (l + 1) - nI (l + 1) / 12 * 12 = nI ((l + 1) % 12) := pk_rem (d := 12) (by omega) (by omega) (by omega)
  have er : (if nI (r + 1) ≤ 12 then nI (r + 1) else 12) = nI (min (r + 1) 12) := by
    by_cases z : r + 1 ≤ 12
    · have c : nI (r + 1) ≤ 12 := nI_le (b := 12) z (by omega)
      rw [if_pos c, Nat.min_eq_left z]
    · have c : ¬ nI (r + 1) ≤ 12 := nI_ge (b := r + 1) (a := 12) (by omega) (by omega)
      rw [if_neg c, Nat.min_eq_right (by omega)]; rfl
  have z12' : ((12 : Int32) = 0) = False := z12
  generalize hL : (l + 1) % 12 = L at *
  have hL12 : L < 12 := by omega
  let h1 : mH := (h.1.set 51 (oP (nI (min (r + 1) 12)) (nI L)), h.2)
  have s1 : m_pf h 51 4 1 (.int (nI L)) = some (h.1.set 51 (oP (nI r) (nI L)), h.2) := pP1 p1 _
  have n1 : ((h.1.set 51 (oP (nI r) (nI L)), h.2) : mH).1[51]? = some (oP (nI r) (nI L)) := hget p1
  have s2 : m_pf (h.1.set 51 (oP (nI r) (nI L)), h.2) 51 4 0 (.int (nI (min (r + 1) 12))) = some h1 := by rw [pP0 n1]; simp only [List.set_set]; rfl
  have k1 : h1.1[51]? = some (oP (nI (min (r + 1) 12)) (nI L)) := hget p1
  have k2 : h1.1[52]? = some (aI 360 A) := (hne (by decide)).trans p2
  have k3 : h1.1[53]? = some (aI 360 B) := (hne (by decide)).trans p3
  have k4 : h1.1[54]? = some (aI 360 C) := (hne (by decide)).trans p4
  have F1 : out PS h h1 := out.st h _ (by unfold PS; omega)
  have H1 : CA h1 a W := H.out F1 (fun b hb => by unfold PS at hb; omega)
  have w1 : h1.1[a + 1 + 1]? = some (aI 30 f1) := (hne (by omega)).trans t1
  have w2 : h1.1[a + 1 + 2]? = some (aI 30 f2) := (hne (by omega)).trans t2
  have w3 : h1.1[a + 1 + 3]? = some (aI 30 f3) := (hne (by omega)).trans t3
  have c1 : m_cp h1 (a + 2) 0 52 (nI (30 * L)) 30 = some (h1.1.set 52 (aI 360 (va_cpy f1 A 0 (30 * L) 30)), h1.2) := cp_n (p := 0) (n := 30) w1 k2 (by omega) (by omega) (by decide) (by decide)
  let h2 : mH := (h1.1.set 52 (aI 360 (va_cpy f1 A 0 (30 * L) 30)), h1.2)
  have c1 : m_cp h1 (a + 2) 0 52 (nI (30 * L)) 30 = some h2 := c1
  have F2 : out PS h1 h2 := out.st h1 _ (by unfold PS; omega)
  have H2 : CA h2 a W := H1.out F2 (fun b hb => by unfold PS at hb; omega)
  have j1 : h2.1[51]? = some (oP (nI (min (r + 1) 12)) (nI L)) := (hne (by decide)).trans k1
  have j2 : h2.1[52]? = some (aI 360 (va_cpy f1 A 0 (30 * L) 30)) := hget k2
  have j3 : h2.1[53]? = some (aI 360 B) := (hne (by decide)).trans k3
  have j4 : h2.1[54]? = some (aI 360 C) := (hne (by decide)).trans k4
  have v2 : h2.1[a + 1 + 2]? = some (aI 30 f2) := (hne (by omega)).trans w2
  have v3 : h2.1[a + 1 + 3]? = some (aI 30 f3) := (hne (by omega)).trans w3
  have c2 : m_cp h2 (a + 3) 0 53 (nI (30 * L)) 30 = some (h2.1.set 53 (aI 360 (va_cpy f2 B 0 (30 * L) 30)), h2.2) := cp_n (p := 0) (n := 30) v2 j3 (by omega) (by omega) (by decide) (by decide)
  let h3 : mH := (h2.1.set 53 (aI 360 (va_cpy f2 B 0 (30 * L) 30)), h2.2)
  have c2 : m_cp h2 (a + 3) 0 53 (nI (30 * L)) 30 = some h3 := c2
  have F3 : out PS h2 h3 := out.st h2 _ (by unfold PS; omega)
  have H3 : CA h3 a W := H2.out F3 (fun b hb => by unfold PS at hb; omega)
  have i1 : h3.1[51]? = some (oP (nI (min (r + 1) 12)) (nI L)) := (hne (by decide)).trans j1
  have i2 : h3.1[52]? = some (aI 360 (va_cpy f1 A 0 (30 * L) 30)) := (hne (by decide)).trans j2
  have i3 : h3.1[53]? = some (aI 360 (va_cpy f2 B 0 (30 * L) 30)) := hget j3
  have i4 : h3.1[54]? = some (aI 360 C) := (hne (by decide)).trans j4
  have u3 : h3.1[a + 1 + 3]? = some (aI 30 f3) := (hne (by omega)).trans v3
  have c3 : m_cp h3 (a + 4) 0 54 (nI (30 * L)) 30 = some (h3.1.set 54 (aI 360 (va_cpy f3 C 0 (30 * L) 30)), h3.2) := cp_n (p := 0) (n := 30) u3 i4 (by omega) (by omega) (by decide) (by decide)
  refine ⟨(h3.1.set 54 (aI 360 (va_cpy f3 C 0 (30 * L) 30)), h3.2), _, _, _, ?_, ((F1.tr1 F2).tr1 F3).tr1 (out.st h3 _ (by unfold PS; omega)), ⟨(hne (by decide)).trans i1, (hne (by decide)).trans i2, (hne (by decide)).trans i3, hget i4⟩, slot_cpy q1, slot_cpy q2, slot_cpy q3⟩
  simp only [e_73_0, e_73_1, e_73_2, e_73_5, e_73_6, e_73_7, e_73_9, e_73_10, e_73_13, e_73_14, e_73_15, e_73_18, e_73_19, e_73_20, e_73_22, e_73_25, e_73_28, e_73_30, e_73_31, e_73_34, e_73_35, e_73_36, e_73_37, e_73_40, e_73_41, e_73_42, e_73_45, e_73_46, e_73_48, e_73_51, e_73_52, e_73_55, e_73_56, e_73_57, e_73_60, e_73_61, e_73_63, e_73_66, e_73_67, e_73_70, e_73_71, e_73_72, e_73_75, e_73_76, e_73_78, e_73_81, Option.bind_some, Option.bind_none, m_kt, m_kn, Option.toList_some, Option.toList_none, List.nil_append, List.cons_append, List.append_nil, ltn, ite_not, ↓reduceIte, true_or, or_true, nP1, oI_s, oI_n, bI_f, bI_t, i1_0, i0_0, Bool.false_eq_true, not_true_eq_false, not_false_eq_true, gP1 p1, gP0 n1, z12, el', s1, er, s2, gP1 k1, n30, gC7 H1, gP2 k1, c1, gC8 H2, gP3 j1, c2, gC9 H3, gP4 i1, c3]
/-- a city whose panes are others -/
theorem CA_pan {h' : mH} {V : WD} (H : CA h a W) (F : out (fun b => a + 1 ≤ b ∧ b ≤ a + 6) h h') (hk : ∀ k, k < 6 → ∃ f, h'.1[a + 1 + k]? = some (aI 30 f) ∧ ∀ p, p < 30 → f p = V (7 + 6 * p + k)) (ho : ∀ i, (i < 7 ∨ (187 ≤ i ∧ i < 427)) → V i = W i) (R : rng W) : CA h' a V := by
  have e : ∀ i, i < 7 → V i = W i := fun i hi => ho i (by omega)
  have w1 : wN V = wN W := by unfold wN; rw [e 0 (by omega)]
  have w2 : gN V = gN W := by unfold gN; rw [e 1 (by omega)]
  have w3 : kN V = kN W := by unfold kN; rw [e 2 (by omega)]
  have w5 : pN V = pN W := by unfold pN; rw [w1, w2]
  have hk12 := kN_le R
  have fe : fN V = fN W := by
    funext k
    unfold fN
    rw [w1, w2, w5, e 2 (by omega), e 5 (by omega), e 6 (by omega), e 3 (by omega)]
  have q : ∀ b, b < a + 1 ∨ a + 6 < b → h'.1[b]? = h.1[b]? := fun b hb => F.2.2 b (fun x => by omega)
  refine ⟨?_, hk, ?_, ?_⟩
  · rw [q a (by omega), fe]; exact H.1
  · obtain ⟨f, e1, e2⟩ := H.2.2.1
    refine ⟨f, (q _ (by omega)).trans e1, fun i hi => ?_⟩
    rw [w3] at hi
    rw [e2 i hi, ho _ (by omega)]
  · obtain ⟨f, e1, e2⟩ := H.2.2.2
    exact ⟨f, (q _ (by omega)).trans e1, fun i hi => by rw [e2 i hi, ho _ (by omega)]⟩
/-- the world as it was ahead of the latest act -/
def ubW (W : WD) (l : Nat) (A B C : Nat → Int32) : WD := fun i => if 7 ≤ i ∧ i < 187 then (if (i - 7) % 6 = 1 then A (30 * l + (i - 7) / 6) else if (i - 7) % 6 = 2 then B (30 * l + (i - 7) / 6) else if (i - 7) % 6 = 3 then C (30 * l + (i - 7) / 6) else W i) else W i
theorem ub_at {W : WD} {l : Nat} {A B C : Nat → Int32} {p k : Nat} (hp : p < 30) (hk : k < 6) : ubW W l A B C (7 + 6 * p + k) = if k = 1 then A (30 * l + p) else if k = 2 then B (30 * l + p) else if k = 3 then C (30 * l + p) else W (7 + 6 * p + k) := by
  unfold ubW
  rw [if_pos (by omega), show (7 + 6 * p + k - 7) % 6 = k by omega, show (7 + 6 * p + k - 7) / 6 = p by omega]
theorem ub_o {W : WD} {l : Nat} {A B C : Nat → Int32} {i : Nat} (h : i < 7 ∨ 187 ≤ i) : ubW W l A B C i = W i := by
  unfold ubW
  rw [if_neg (by omega)]
theorem giveBack_ev (O : mO) (d : Nat) (H : CA h a W) (R : rng W) (ha : a < 28) {r l : Nat} {A B C : Nat → Int32} (P : PC h r l A B C) (hr : r ≤ 12) (hl : l < 12) : (r = 0 → ev O (d) 74 0 [.ref 51, .ref a, mJ] [] h = some (.inl (some (.int (0))), h)) ∧ (0 < r → ∃ h', ev O (d) 74 0 [.ref 51, .ref a, mJ] [] h = some (.inl (some (.int (1))), h') ∧ out (fun b => b = 51 ∨ (a + 1 ≤ b ∧ b ≤ a + 6)) h h' ∧ PC h' (r - 1) ((l + 11) % 12) A B C ∧ CA h' a (ubW W l A B C)) := by
  have P0 := P
  obtain ⟨p1, p2, p3, p4⟩ := P
  refine ⟨fun z => ?_, fun z => ?_⟩
  · subst z
    simp only [e_74_0, e_74_1, e_74_4, e_74_7, e_74_8, e_74_9, e_74_11, e_74_12, e_74_15, e_74_16, e_74_17, e_74_18, e_74_21, e_74_22, e_74_23, e_74_26, e_74_27, e_74_29, e_74_32, e_74_33, e_74_36, e_74_37, e_74_38, e_74_41, e_74_42, e_74_44, e_74_47, e_74_48, e_74_51, e_74_52, e_74_53, e_74_56, e_74_57, e_74_59, e_74_62, e_74_63, e_74_64, e_74_67, e_74_69, e_74_70, e_74_71, e_74_72, e_74_74, e_74_75, e_74_78, e_74_79, e_74_80, e_74_83, e_74_84, e_74_85, e_74_88, e_74_89, Option.bind_some, Option.bind_none, m_kt, m_kn, Option.toList_some, Option.toList_none, List.nil_append, List.cons_append, List.append_nil, ltn, ite_not, ↓reduceIte, true_or, or_true, nP1, oI_s, oI_n, bI_f, bI_t, i1_0, i0_0, Bool.false_eq_true, not_true_eq_false, not_false_eq_true, gP0 p1, (show (nI 0 = 0) = True by decide), z01]
  · obtain ⟨f1, t1, q1⟩ := H.2.1 1 (by omega)
    obtain ⟨f2, t2, q2⟩ := H.2.1 2 (by omega)
    obtain ⟨f3, t3, q3⟩ := H.2.1 3 (by omega)
    have rz : (nI r = 0) = False := eq_false (nI_ne0 z (by omega))
    have el : nI l + 12 - 1 - (nI l + 12 - 1) / 12 * 12 = nI ((l + 11) % 12) := by
      have e0 : nI l + 12 - 1 = nI (l + 11) := by rw [show nI l + 12 = nI (l + 12) from nI_add l 12, n_1, pk_sub (by omega)]; rfl
      rw [e0]
      exact pk_rem (d := 12) (by omega) (by omega) (by omega)
    have c1 : m_cp h 52 (nI (30 * l)) (a + 2) 0 30 = some (h.1.set (a + 2) (aI 30 (va_cpy A f1 (30 * l) 0 30)), h.2) := cp_n (q := 0) (n := 30) p2 t1 (by omega) (by omega) (by decide) (by decide)
    let h1 : mH := (h.1.set (a + 2) (aI 30 (va_cpy A f1 (30 * l) 0 30)), h.2)
    have c1 : m_cp h 52 (nI (30 * l)) (a + 2) 0 30 = some h1 := c1
    have o1 : h1.1[a]? = some (oC a (fN W)) := (hne (by omega)).trans H.1
    have gc7 : m_gf h1 a 0 8 = some (.ref (a + 3)) := by simp only [m_gf, o1, oC, ↓reduceIte]; rfl
    have k1 : h1.1[51]? = some (oP (nI r) (nI l)) := (hne (by omega)).trans p1
    have k3 : h1.1[53]? = some (aI 360 B) := (hne (by omega)).trans p3
    have k4 : h1.1[54]? = some (aI 360 C) := (hne (by omega)).trans p4
    have w1 : h1.1[a + 2]? = some (aI 30 (va_cpy A f1 (30 * l) 0 30)) := hget t1
    have w2 : h1.1[a + 3]? = some (aI 30 f2) := (hne (by omega)).trans t2
    have w3 : h1.1[a + 4]? = some (aI 30 f3) := (hne (by omega)).trans t3
    have c2 : m_cp h1 53 (nI (30 * l)) (a + 3) 0 30 = some (h1.1.set (a + 3) (aI 30 (va_cpy B f2 (30 * l) 0 30)), h1.2) := cp_n (q := 0) (n := 30) k3 w2 (by omega) (by omega) (by decide) (by decide)
    let h2 : mH := (h1.1.set (a + 3) (aI 30 (va_cpy B f2 (30 * l) 0 30)), h1.2)
    have c2 : m_cp h1 53 (nI (30 * l)) (a + 3) 0 30 = some h2 := c2
    have o2 : h2.1[a]? = some (oC a (fN W)) := (hne (by omega)).trans o1
    have gc8 : m_gf h2 a 0 9 = some (.ref (a + 4)) := by simp only [m_gf, o2, oC, ↓reduceIte]; rfl
    have j1 : h2.1[51]? = some (oP (nI r) (nI l)) := (hne (by omega)).trans k1
    have j4 : h2.1[54]? = some (aI 360 C) := (hne (by omega)).trans k4
    have v1 : h2.1[a + 2]? = some (aI 30 (va_cpy A f1 (30 * l) 0 30)) := (hne (by omega)).trans w1
    have v2 : h2.1[a + 3]? = some (aI 30 (va_cpy B f2 (30 * l) 0 30)) := hget w2
    have v3 : h2.1[a + 4]? = some (aI 30 f3) := (hne (by omega)).trans w3
    have c3 : m_cp h2 54 (nI (30 * l)) (a + 4) 0 30 = some (h2.1.set (a + 4) (aI 30 (va_cpy C f3 (30 * l) 0 30)), h2.2) := cp_n (q := 0) (n := 30) j4 v3 (by omega) (by omega) (by decide) (by decide)
    let h3 : mH := (h2.1.set (a + 4) (aI 30 (va_cpy C f3 (30 * l) 0 30)), h2.2)
    have c3 : m_cp h2 54 (nI (30 * l)) (a + 4) 0 30 = some h3 := c3
    have i1 : h3.1[51]? = some (oP (nI r) (nI l)) := (hne (by omega)).trans j1
    have s1 : m_pf h3 51 4 1 (.int (nI ((l + 11) % 12))) = some (h3.1.set 51 (oP (nI r) (nI ((l + 11) % 12))), h3.2) := pP1 i1 _
    have n1 : ((h3.1.set 51 (oP (nI r) (nI ((l + 11) % 12))), h3.2) : mH).1[51]? = some (oP (nI r) (nI ((l + 11) % 12))) := hget i1
    have er : nI r - 1 = nI (r - 1) := by rw [n_1, pk_sub (by omega)]
    have s2 : m_pf (h3.1.set 51 (oP (nI r) (nI ((l + 11) % 12))), h3.2) 51 4 0 (.int (nI (r - 1))) = some (h3.1.set 51 (oP (nI (r - 1)) (nI ((l + 11) % 12))), h3.2) := by rw [pP0 n1]; simp only [List.set_set]
    let h4 : mH := (h3.1.set 51 (oP (nI (r - 1)) (nI ((l + 11) % 12))), h3.2)
    have s2 : m_pf (h3.1.set 51 (oP (nI r) (nI ((l + 11) % 12))), h3.2) 51 4 0 (.int (nI (r - 1))) = some h4 := s2
    have F3 : out (fun b => a + 1 ≤ b ∧ b ≤ a + 6) h h3 := ((out.st h _ (by omega)).tr1 (out.st h1 _ (by omega))).tr1 (out.st h2 _ (by omega))
    have F4 : out (fun b => b = 51 ∨ (a + 1 ≤ b ∧ b ≤ a + 6)) h h4 := (F3.mo (fun b hb => .inr hb)).tr1 (out.st h3 _ (.inl rfl))
    have H3 : CA h3 a (ubW W l A B C) := by
      refine CA_pan H F3 (fun k hk => ?_) (fun i hi => ub_o (by omega)) R
      obtain ⟨f, e1, e2⟩ := H.2.1 k hk
      have cf : ∀ (X g : Nat → Int32) (p : Nat), p < 30 → va_cpy X g (30 * l) 0 30 p = X (30 * l + p) := fun X g p hp => by
        rw [pk_cpy_in (by omega) (by omega)]; congr 1
      by_cases z1 : k = 1
      · subst z1
        exact ⟨_, (hne (by omega)).trans v1, fun p hp => by rw [cf A f1 p hp, ub_at hp (by omega)]; rfl⟩
      · by_cases z2 : k = 2
        · subst z2
          exact ⟨_, (hne (by omega)).trans v2, fun p hp => by rw [cf B f2 p hp, ub_at hp (by omega)]; rfl⟩
        · by_cases z3 : k = 3
          · subst z3
            exact ⟨_, hget v3, fun p hp => by rw [cf C f3 p hp, ub_at hp (by omega)]; rfl⟩
          · refine ⟨f, ?_, fun p hp => by rw [e2 p hp, ub_at hp hk, if_neg z1, if_neg z2, if_neg z3]⟩
            exact ((hne (by omega)).trans ((hne (by omega)).trans (hne (by omega)))).trans e1
    refine ⟨h4, ?_, F4, ⟨hget i1, ?_, ?_, ?_⟩, H3.out (A := fun b => b = 51) (out.st h3 _ rfl) (fun b hb => by omega)⟩
    · simp only [e_74_0, e_74_1, e_74_4, e_74_7, e_74_8, e_74_9, e_74_11, e_74_12, e_74_15, e_74_16, e_74_17, e_74_18, e_74_21, e_74_22, e_74_23, e_74_26, e_74_27, e_74_29, e_74_32, e_74_33, e_74_36, e_74_37, e_74_38, e_74_41, e_74_42, e_74_44, e_74_47, e_74_48, e_74_51, e_74_52, e_74_53, e_74_56, e_74_57, e_74_59, e_74_62, e_74_63, e_74_64, e_74_67, e_74_69, e_74_70, e_74_71, e_74_72, e_74_74, e_74_75, e_74_78, e_74_79, e_74_80, e_74_83, e_74_84, e_74_85, e_74_88, e_74_89, Option.bind_some, Option.bind_none, m_kt, m_kn, Option.toList_some, Option.toList_none, List.nil_append, List.cons_append, List.append_nil, ltn, ite_not, ↓reduceIte, true_or, or_true, nP1, oI_s, oI_n, bI_f, bI_t, i1_0, i0_0, Bool.false_eq_true, not_true_eq_false, not_false_eq_true, gP0 p1, rz, gP1 p1, n30, gP2 p1, gC7 H, c1, gP3 k1, gc7, c2, gP4 j1, gc8, c3, gP1 i1, z12, el, s1, gP0 n1, er, s2, o01]
    · exact ((hne (by decide)).trans ((hne (by omega)).trans ((hne (by omega)).trans (hne (by omega))))).trans p2
    · exact ((hne (by decide)).trans ((hne (by omega)).trans ((hne (by omega)).trans (hne (by omega))))).trans p3
    · exact ((hne (by decide)).trans ((hne (by omega)).trans ((hne (by omega)).trans (hne (by omega))))).trans p4
end PastC
/-! The reference remembers -/
theorem upd_id {f : Nat → Int32} {k : Nat} {x : Int32} (h : f k = x) : upd f k x = f := by
  funext j
  by_cases z : j = k
  · subst z; rw [pk_us, h]
  · exact pk_un z
theorem nL180 (k : Nat) : (180 : Int32) * nI k = nI (180 * k) := by rw [← pk_mul]; rfl
def hU (h : mH) (m : Nat → Int32) (U : Nat → Int32) : mH := ((h.1.set 66 (oM m)).set 70 (aI 2160 U), h.2)
theorem hU_MS {h : mH} {m0 : Nat → Int32} {W : WD} (H : MS h m0 W) (m U : Nat → Int32) : MS (hU h m U) m W := ⟨(hne (by decide)).trans (hget H.1), ((hne (by decide)).trans (hne (by decide))).trans H.2⟩
theorem hU_at {h : mH} {U0 : Nat → Int32} (e : h.1[70]? = some (aI 2160 U0)) (m U : Nat → Int32) : (hU h m U).1[70]? = some (aI 2160 U) := hget (c := aI 2160 U0) ((hne (by decide)).trans e)
theorem hU_id {h : mH} {m : Nat → Int32} {W : WD} {U : Nat → Int32} (H : MS h m W) (e : h.1[70]? = some (aI 2160 U)) : hU h m U = h := by unfold hU; rw [hset H.1, hset e]
section PastM
variable {h : mH} {m : Nat → Int32} {W : WD}
/-- what is remembered behind one more act -/
def rmU (W : WD) (r : Nat) (U U' : Nat → Int32) : Prop := (∀ k, k < 180 → U' (180 * (min (r + 1) 12 - 1) + k) = W (7 + k)) ∧ ∀ u k, u + 1 < min (r + 1) 12 → k < 180 → U' (180 * u + k) = if r < 12 then U (180 * u + k) else U (180 * (u + 1) + k)
theorem remembers_ev (O : mO) (d : Nat) (H : MS h m W) {r : Nat} (hr : r ≤ 12) (h6 : m 6 = nI r) {U : Nat → Int32} (e70 : h.1[70]? = some (aI 2160 U)) : ∃ U', ev O (d) 199 0 [.ref 66, mJ, mJ] [] h = some (.inl none, hU h (upd m 6 (nI (min (r + 1) 12))) U') ∧ rmU W r U U' := by
  -- the copy at the end
  have fin : ∀ (m' U1 : Nat → Int32) (q : Nat) (v : Value), m' 6 = nI (q + 1) → q < 12 → ∃ U', ev O (d) 199 58 [.ref 66, .int 180, .int 0] [] (hU h m' U1) = some (.inl none, hU h m' U') ∧ (∀ k, k < 180 → U' (180 * q + k) = W (7 + k)) ∧ ∀ i, (i < 180 * q ∨ 180 * q + 180 ≤ i) → U' i = U1 i := by
    intro m' U1 q v hm hq
    have e := lp_runI (fun j (V : Nat → Int32) => (∀ k, k < j → V (180 * q + k) = W (7 + k)) ∧ ∀ i, (i < 180 * q ∨ 180 * q + 180 ≤ i) → V i = U1 i) (F := fun j V => ev O (d) 199 58 [.ref 66, .int 180, .int (nI j)] [] (hU h m' V)) (f := fun j V => upd V (180 * q + j) (W (7 + j))) (n := 180) (s := U1) ⟨fun k hk => by omega, fun i _ => rfl⟩ (fun j V hj I => by
      have c1 : ¬ (180 : Int32) ≤ nI j := nI_ge (b := 180) hj (by omega)
      have HV := hU_MS H m' V
      have s1 : m_si (hU h m' V) 70 (nI (180 * q + j)) (W (7 + j)) = some (hU h m' (upd V (180 * q + j) (W (7 + j)))) := by
        rw [si_n (hU_at e70 m' V) (by omega) (by decide)]; unfold hU; rw [List.set_set]
      refine ⟨⟨fun k hk => ?_, fun i hi => ?_⟩, ?_⟩
      · by_cases z : k = j
        · subst z; exact pk_us
        · rw [pk_un (by omega)]; exact I.1 k (by omega)
      · rw [pk_un (by omega)]; exact I.2 i hi
      · rw [e_199_58]
        simp only [e_199_0, e_199_3, e_199_4, e_199_5, e_199_8, e_199_10, e_199_13, e_199_14, e_199_15, e_199_16, e_199_17, e_199_19, e_199_20, e_199_23, e_199_24, e_199_27, e_199_28, e_199_29, e_199_32, e_199_33, e_199_34, e_199_35, e_199_36, e_199_37, e_199_40, e_199_43, e_199_46, e_199_47, e_199_48, e_199_51, e_199_52, e_199_53, e_199_56, e_199_57, e_199_59, e_199_60, e_199_63, e_199_64, e_199_67, e_199_68, e_199_69, e_199_72, e_199_73, e_199_74, e_199_75, e_199_76, e_199_77, e_199_78, e_199_81, e_199_83, e_199_84, e_199_85, e_199_86, e_199_87, e_199_90, e_199_93, Option.bind_some, Option.bind_none, m_kt, m_kn, Option.toList_some, Option.toList_none, List.nil_append, List.cons_append, List.append_nil, ltn, ite_not, ↓reduceIte, true_or, or_true, nP1, oI_s, oI_n, bI_f, bI_t, i1_0, i0_0, Bool.false_eq_true, not_true_eq_false, not_false_eq_true, c1, gM5 HV.1, gM6 HV.1, gM1 HV.1, hm, nI_pred, nL180, nA, nL7, HV.w.w (show 7 + j < 2101 by omega), s1])
    obtain ⟨I, e⟩ := e
    simp only [nI_0] at e
    refine ⟨_, e.trans ?_, I.1, I.2⟩
    rw [e_199_58]
    simp only [e_199_0, e_199_3, e_199_4, e_199_5, e_199_8, e_199_10, e_199_13, e_199_14, e_199_15, e_199_16, e_199_17, e_199_19, e_199_20, e_199_23, e_199_24, e_199_27, e_199_28, e_199_29, e_199_32, e_199_33, e_199_34, e_199_35, e_199_36, e_199_37, e_199_40, e_199_43, e_199_46, e_199_47, e_199_48, e_199_51, e_199_52, e_199_53, e_199_56, e_199_57, e_199_59, e_199_60, e_199_63, e_199_64, e_199_67, e_199_68, e_199_69, e_199_72, e_199_73, e_199_74, e_199_75, e_199_76, e_199_77, e_199_78, e_199_81, e_199_83, e_199_84, e_199_85, e_199_86, e_199_87, e_199_90, e_199_93, Option.bind_some, Option.bind_none, m_kt, m_kn, Option.toList_some, Option.toList_none, List.nil_append, List.cons_append, List.append_nil, ltn, ite_not, ↓reduceIte, true_or, or_true, nP1, oI_s, oI_n, bI_f, bI_t, i1_0, i0_0, Bool.false_eq_true, not_true_eq_false, not_false_eq_true, (show ((180 : Int32) ≤ nI 180) = True by decide)]
  by_cases c : r = 12
  · subst c
    have e := lp_runI (fun j (V : Nat → Int32) => ∀ i, V i = if i < j then U (i + 180) else U i) (F := fun j V => ev O (d) 199 15 [.ref 66, .int 180, .int (nI j)] [] (hU h m V)) (f := fun j V => upd V j (U (j + 180))) (n := 1980) (s := U) (fun i => by rw [if_neg (by omega)]) (fun j V hj I => by
      have c1 : ¬ (180 * 11 : Int32) ≤ nI j := nI_ge (b := 1980) hj (by omega)
      have HV := hU_MS H m V
      have g1 := ai_n (hU_at e70 m V) (show j + 180 < 2160 by omega) (by decide)
      rw [I (j + 180), if_neg (by omega)] at g1
      have a180 : nI j + 180 = nI (j + 180) := nI_add j 180
      have s1 : m_si (hU h m V) 70 (nI j) (U (j + 180)) = some (hU h m (upd V j (U (j + 180)))) := by
        rw [si_n (hU_at e70 m V) (by omega) (by decide)]; unfold hU; rw [List.set_set]
      refine ⟨fun i => ?_, ?_⟩
      · by_cases z : i = j
        · subst z; rw [pk_us, if_pos (by omega)]
        · rw [pk_un z, I i]
          by_cases z2 : i < j
          · rw [if_pos z2, if_pos (by omega)]
          · rw [if_neg z2, if_neg (by omega)]
      · rw [e_199_15]
        simp only [e_199_0, e_199_3, e_199_4, e_199_5, e_199_8, e_199_10, e_199_13, e_199_14, e_199_16, e_199_17, e_199_19, e_199_20, e_199_23, e_199_24, e_199_27, e_199_28, e_199_29, e_199_32, e_199_33, e_199_34, e_199_35, e_199_36, e_199_37, e_199_40, e_199_43, e_199_46, e_199_47, e_199_48, e_199_51, e_199_52, e_199_53, e_199_56, e_199_57, e_199_58, e_199_59, e_199_60, e_199_63, e_199_64, e_199_67, e_199_68, e_199_69, e_199_72, e_199_73, e_199_74, e_199_75, e_199_76, e_199_77, e_199_78, e_199_81, e_199_83, e_199_84, e_199_85, e_199_86, e_199_87, e_199_90, e_199_93, Option.bind_some, Option.bind_none, m_kt, m_kn, Option.toList_some, Option.toList_none, List.nil_append, List.cons_append, List.append_nil, ltn, ite_not, ↓reduceIte, true_or, or_true, nP1, oI_s, oI_n, bI_f, bI_t, i1_0, i0_0, Bool.false_eq_true, not_true_eq_false, not_false_eq_true, c1, gM5 HV.1, a180, g1, s1])
    obtain ⟨I, e⟩ := e
    rw [hU_id H e70] at e
    simp only [nI_0] at e
    obtain ⟨U', e2, q1, q2⟩ := fin m _ 11 mJ h6 (by omega)
    have hm : upd m 6 (nI (min (12 + 1) 12)) = m := upd_id h6
    rw [hm]
    refine ⟨U', ?_, q1, fun u k hu hk => ?_⟩
    · have c12 : m 6 = 12 := h6
      simp only [e_199_0, e_199_3, e_199_4, e_199_5, e_199_8, e_199_10, e_199_13, e_199_14, e_199_16, e_199_17, e_199_19, e_199_20, e_199_23, e_199_24, e_199_27, e_199_28, e_199_29, e_199_32, e_199_33, e_199_34, e_199_35, e_199_36, e_199_37, e_199_40, e_199_43, e_199_46, e_199_47, e_199_48, e_199_51, e_199_52, e_199_53, e_199_56, e_199_57, e_199_59, e_199_60, e_199_63, e_199_64, e_199_67, e_199_68, e_199_69, e_199_72, e_199_73, e_199_74, e_199_75, e_199_76, e_199_77, e_199_78, e_199_81, e_199_83, e_199_84, e_199_85, e_199_86, e_199_87, e_199_90, e_199_93, Option.bind_some, Option.bind_none, m_kt, m_kn, Option.toList_some, Option.toList_none, List.nil_append, List.cons_append, List.append_nil, ltn, ite_not, ↓reduceIte, true_or, or_true, nP1, oI_s, oI_n, bI_f, bI_t, i1_0, i0_0, Bool.false_eq_true, not_true_eq_false, not_false_eq_true, gM6 H.1, c12]
      refine e.trans ?_
      rw [e_199_15]
      simp only [e_199_0, e_199_3, e_199_4, e_199_5, e_199_8, e_199_10, e_199_13, e_199_14, e_199_16, e_199_17, e_199_19, e_199_20, e_199_23, e_199_24, e_199_27, e_199_28, e_199_29, e_199_32, e_199_33, e_199_34, e_199_35, e_199_36, e_199_37, e_199_40, e_199_43, e_199_46, e_199_47, e_199_48, e_199_51, e_199_52, e_199_53, e_199_56, e_199_57, e_199_59, e_199_60, e_199_63, e_199_64, e_199_67, e_199_68, e_199_69, e_199_72, e_199_73, e_199_74, e_199_75, e_199_76, e_199_77, e_199_78, e_199_81, e_199_83, e_199_84, e_199_85, e_199_86, e_199_87, e_199_90, e_199_93, Option.bind_some, Option.bind_none, m_kt, m_kn, Option.toList_some, Option.toList_none, List.nil_append, List.cons_append, List.append_nil, ltn, ite_not, ↓reduceIte, true_or, or_true, nP1, oI_s, oI_n, bI_f, bI_t, i1_0, i0_0, Bool.false_eq_true, not_true_eq_false, not_false_eq_true, (show ((180 * 11 : Int32) ≤ nI 1980) = True by decide)]
      exact e2
    · rw [if_neg (by omega), q2 _ (by omega), I, if_pos (by omega)]
      congr 1; omega
  · have hm : min (r + 1) 12 = r + 1 := by omega
    rw [hm]
    obtain ⟨U', e2, q1, q2⟩ := fin (upd m 6 (nI (r + 1))) U r mJ pk_us (by omega)
    have c12 : ¬ nI r = 12 := fun q => c ((nI_eq (a := r) (b := 12) (by omega) (by omega)).mp q)
    have s1 : m_pf h 66 8 6 (.int (nI (r + 1))) = some (hU h (upd m 6 (nI (r + 1))) U) := by
      rw [pM6 H.1]
      unfold hU
      have : (h.1.set 66 (oM (upd m 6 (nI (r + 1)))))[70]? = some (aI 2160 U) := (hne (by decide)).trans e70
      rw [hset this]
    refine ⟨U', ?_, ?_, fun u k hu hk => ?_⟩
    · simp only [e_199_0, e_199_3, e_199_4, e_199_5, e_199_8, e_199_10, e_199_13, e_199_14, e_199_16, e_199_17, e_199_19, e_199_20, e_199_23, e_199_24, e_199_27, e_199_28, e_199_29, e_199_32, e_199_33, e_199_34, e_199_35, e_199_36, e_199_37, e_199_40, e_199_43, e_199_46, e_199_47, e_199_48, e_199_51, e_199_52, e_199_53, e_199_56, e_199_57, e_199_59, e_199_60, e_199_63, e_199_64, e_199_67, e_199_68, e_199_69, e_199_72, e_199_73, e_199_74, e_199_75, e_199_76, e_199_77, e_199_78, e_199_81, e_199_83, e_199_84, e_199_85, e_199_86, e_199_87, e_199_90, e_199_93, Option.bind_some, Option.bind_none, m_kt, m_kn, Option.toList_some, Option.toList_none, List.nil_append, List.cons_append, List.append_nil, ltn, ite_not, ↓reduceIte, true_or, or_true, nP1, oI_s, oI_n, bI_f, bI_t, i1_0, i0_0, Bool.false_eq_true, not_true_eq_false, not_false_eq_true, gM6 H.1, h6, c12, s1]
      exact e2
    · intro k hk
      rw [hm]
      exact q1 k hk
    · rw [if_pos (by omega), q2 _ (by omega)]
/-- what the latest act found -/
def unW (W : WD) (q : Nat) (U : Nat → Int32) : WD := fun i => if 7 ≤ i ∧ i < 187 then U (180 * q + (i - 7)) else W i
theorem Mundo_ev (O : mO) (d : Nat) (H : MS h m W) {r : Nat} (hr : r ≤ 12) (h6 : m 6 = nI r) {U : Nat → Int32} (e70 : h.1[70]? = some (aI 2160 U)) : (r = 0 → ev O (d) 200 0 [.ref 66, mJ] [] h = some (.inl (some (.int (0))), tH h m 0)) ∧ (0 < r → ev O (d) 200 0 [.ref 66, mJ] [] h = some (.inl (some (.int (1))), hT (h.1.set 66 (oM (upd (upd m 0 0) 6 (nI (r - 1)))), h.2) (unW W (r - 1) U))) := by
  have H0 := H.t 0
  have m6 : upd m 0 0 6 = nI r := (pk_un (by omega)).trans h6
  refine ⟨fun z => ?_, fun z => ?_⟩
  · subst z
    simp only [e_200_0, e_200_1, e_200_2, e_200_5, e_200_6, e_200_9, e_200_12, e_200_13, e_200_14, e_200_15, e_200_16, e_200_19, e_200_20, e_200_21, e_200_24, e_200_25, e_200_27, e_200_30, e_200_33, e_200_34, e_200_37, e_200_39, e_200_40, e_200_41, e_200_42, e_200_45, e_200_48, e_200_49, e_200_52, e_200_53, e_200_54, e_200_55, e_200_56, e_200_57, e_200_60, e_200_63, e_200_64, Option.bind_some, Option.bind_none, m_kt, m_kn, Option.toList_some, Option.toList_none, List.nil_append, List.cons_append, List.append_nil, ltn, ite_not, ↓reduceIte, true_or, or_true, nP1, oI_s, oI_n, bI_f, bI_t, i1_0, i0_0, Bool.false_eq_true, not_true_eq_false, not_false_eq_true, pMt H, gM6 H0.1, m6, (show (nI 0 = 0) = True by decide), z01]
  · have rz : (nI r = 0) = False := eq_false (nI_ne0 z (by omega))
    have er : nI r - 1 = nI (r - 1) := by rw [n_1, pk_sub (by omega)]
    have H1 : MS (h.1.set 66 (oM (upd (upd m 0 0) 6 (nI (r - 1)))), h.2) (upd (upd m 0 0) 6 (nI (r - 1))) W := ⟨hget H.1, (hne (by decide)).trans H.2⟩
    have s1 : m_pf (tH h m 0) 66 8 6 (.int (nI (r - 1))) = some (h.1.set 66 (oM (upd (upd m 0 0) 6 (nI (r - 1)))), h.2) := by
      rw [pM6 H0.1]
      unfold tH
      simp only [List.set_set]
    have g70 : ((h.1.set 66 (oM (upd (upd m 0 0) 6 (nI (r - 1)))), h.2) : mH).1[70]? = some (aI 2160 U) := (hne (by decide)).trans e70
    generalize ((h.1.set 66 (oM (upd (upd m 0 0) 6 (nI (r - 1)))), h.2) : mH) = h1 at *
    generalize hm' : upd (upd m 0 0) 6 (nI (r - 1)) = m1 at *
    have m16 : m1 6 = nI (r - 1) := by rw [← hm']; exact pk_us
    have e := lp_runI (fun j (V : WD) => ∀ i, V i = if 7 ≤ i ∧ i < 7 + j then U (180 * (r - 1) + (i - 7)) else W i) (F := fun j V => ev O (d) 200 26 [.ref 66, .int (nI j)] [] (hT h1 V)) (f := fun j V => upd V (7 + j) (U (180 * (r - 1) + j))) (n := 180) (s := W) (fun i => by rw [if_neg (by omega)]) (fun j V hj I => by
      have c1 : ¬ (180 : Int32) ≤ nI j := nI_ge (b := 180) hj (by omega)
      have HV := H1.hT V
      have g1 : (hT h1 V).1[70]? = some (aI 2160 U) := (hne (by decide)).trans g70
      have ga := ai_n g1 (show 180 * (r - 1) + j < 2160 by omega) (by decide)
      have sa : m_si (hT h1 V) 67 (nI (7 + j)) (U (180 * (r - 1) + j)) = some (hT h1 (upd V (7 + j) (U (180 * (r - 1) + j)))) := by
        rw [si_n HV.2 (by omega) (by decide)]; exact congrArg some (hT_hT h1 V _)
      refine ⟨fun i => ?_, ?_⟩
      · by_cases y : i = 7 + j
        · subst y; rw [pk_us, if_pos (by omega)]; congr 1; omega
        · rw [pk_un y, I i]
          by_cases y2 : 7 ≤ i ∧ i < 7 + j
          · rw [if_pos y2, if_pos (by omega)]
          · rw [if_neg y2, if_neg (by omega)]
      · rw [e_200_26]
        simp only [e_200_0, e_200_1, e_200_2, e_200_5, e_200_6, e_200_9, e_200_12, e_200_13, e_200_14, e_200_15, e_200_16, e_200_19, e_200_20, e_200_21, e_200_24, e_200_25, e_200_27, e_200_30, e_200_33, e_200_34, e_200_37, e_200_39, e_200_40, e_200_41, e_200_42, e_200_45, e_200_48, e_200_49, e_200_52, e_200_53, e_200_54, e_200_55, e_200_56, e_200_57, e_200_60, e_200_63, e_200_64, Option.bind_some, Option.bind_none, m_kt, m_kn, Option.toList_some, Option.toList_none, List.nil_append, List.cons_append, List.append_nil, ltn, ite_not, ↓reduceIte, true_or, or_true, nP1, oI_s, oI_n, bI_f, bI_t, i1_0, i0_0, Bool.false_eq_true, not_true_eq_false, not_false_eq_true, c1, gM1 HV.1, gM5 HV.1, gM6 HV.1, m16, nL7, nL180, nA, ga, sa])
    obtain ⟨I, e⟩ := e
    have h00 : hT h1 W = h1 := by unfold hT; rw [hset H1.2]
    rw [h00] at e
    have eW : lp (fun j V => upd V (7 + j) (U (180 * (r - 1) + j))) 180 W = unW W (r - 1) U := by funext i; rw [I i]; rfl
    rw [eW] at e
    simp only [nI_0] at e
    simp only [e_200_0, e_200_1, e_200_2, e_200_5, e_200_6, e_200_9, e_200_12, e_200_13, e_200_14, e_200_15, e_200_16, e_200_19, e_200_20, e_200_21, e_200_24, e_200_25, e_200_27, e_200_30, e_200_33, e_200_34, e_200_37, e_200_39, e_200_40, e_200_41, e_200_42, e_200_45, e_200_48, e_200_49, e_200_52, e_200_53, e_200_54, e_200_55, e_200_56, e_200_57, e_200_60, e_200_63, e_200_64, Option.bind_some, Option.bind_none, m_kt, m_kn, Option.toList_some, Option.toList_none, List.nil_append, List.cons_append, List.append_nil, ltn, ite_not, ↓reduceIte, true_or, or_true, nP1, oI_s, oI_n, bI_f, bI_t, i1_0, i0_0, Bool.false_eq_true, not_true_eq_false, not_false_eq_true, pMt H, gM6 H0.1, m6, rz, er, s1]
    refine e.trans ?_
    rw [e_200_26]
    simp only [e_200_0, e_200_1, e_200_2, e_200_5, e_200_6, e_200_9, e_200_12, e_200_13, e_200_14, e_200_15, e_200_16, e_200_19, e_200_20, e_200_21, e_200_24, e_200_25, e_200_27, e_200_30, e_200_33, e_200_34, e_200_37, e_200_39, e_200_40, e_200_41, e_200_42, e_200_45, e_200_48, e_200_49, e_200_52, e_200_53, e_200_54, e_200_55, e_200_56, e_200_57, e_200_60, e_200_63, e_200_64, Option.bind_some, Option.bind_none, m_kt, m_kn, Option.toList_some, Option.toList_none, List.nil_append, List.cons_append, List.append_nil, ltn, ite_not, ↓reduceIte, true_or, or_true, nP1, oI_s, oI_n, bI_f, bI_t, i1_0, i0_0, Bool.false_eq_true, not_true_eq_false, not_false_eq_true, (show ((180 : Int32) ≤ nI 180) = True by decide), o01]
end PastM
/-- the class's ring of acts and the reference's row -/
def PR (W : WD) (r l : Nat) (A B C U : Nat → Int32) : Prop := r ≤ 12 ∧ l < 12 ∧ ∀ j, j < r → ∀ p, p < 30 → U (180 * (r - 1 - j) + 6 * p) = W (7 + 6 * p) ∧ (U (180 * (r - 1 - j) + 6 * p + 1) = A (30 * ((l + 12 - j) % 12) + p) ∧ bd (-40) 60 (U (180 * (r - 1 - j) + 6 * p + 1))) ∧ (U (180 * (r - 1 - j) + 6 * p + 2) = B (30 * ((l + 12 - j) % 12) + p) ∧ bd 0 100 (U (180 * (r - 1 - j) + 6 * p + 2))) ∧ (U (180 * (r - 1 - j) + 6 * p + 3) = C (30 * ((l + 12 - j) % 12) + p) ∧ bd 0 3 (U (180 * (r - 1 - j) + 6 * p + 3))) ∧ U (180 * (r - 1 - j) + 6 * p + 4) = W (7 + 6 * p + 4) ∧ U (180 * (r - 1 - j) + 6 * p + 5) = W (7 + 6 * p + 5)
theorem PR_0 (W : WD) {l : Nat} (hl : l < 12) (A B C U : Nat → Int32) : PR W 0 l A B C U := ⟨by omega, hl, fun j hj => by omega⟩
theorem PR_W {W V : WD} {r l : Nat} {A B C U : Nat → Int32} (h : PR W r l A B C U) (e : ∀ p, p < 30 → V (7 + 6 * p) = W (7 + 6 * p) ∧ V (7 + 6 * p + 4) = W (7 + 6 * p + 4) ∧ V (7 + 6 * p + 5) = W (7 + 6 * p + 5)) : PR V r l A B C U := ⟨h.1, h.2.1, fun j hj p hp => by
  obtain ⟨e1, e2, e3⟩ := e p hp
  rw [e1, e2, e3]
  exact h.2.2 j hj p hp⟩
theorem PR_s {W : WD} (R : rng W) {r l : Nat} {A B C U A' B' C' U' : Nat → Int32} (h : PR W r l A B C U) (s1 : slot ((l + 1) % 12) 1 W A A') (s2 : slot ((l + 1) % 12) 2 W B B') (s3 : slot ((l + 1) % 12) 3 W C C') (u : rmU W r U U') : PR W (min (r + 1) 12) ((l + 1) % 12) A' B' C' U' := by
  obtain ⟨h1, h2, h3⟩ := h
  refine ⟨by omega, by omega, fun j hj p hp => ?_⟩
  have q := rP R hp
  rcases Nat.eq_zero_or_pos j with z | z
  · subst z
    have uk : ∀ k, k < 6 → U' (180 * (min (r + 1) 12 - 1 - 0) + 6 * p + k) = W (7 + 6 * p + k) := fun k hk => by
      have := u.1 (6 * p + k) (by omega)
      rw [show 180 * (min (r + 1) 12 - 1 - 0) + 6 * p + k = 180 * (min (r + 1) 12 - 1) + (6 * p + k) by omega, this]
      congr 1; omega
    have u0 : U' (180 * (min (r + 1) 12 - 1 - 0) + 6 * p) = W (7 + 6 * p) := uk 0 (by omega)
    have sl : ((l + 1) % 12 + 12 - 0) % 12 = (l + 1) % 12 := by omega
    rw [u0, uk 1 (by omega), uk 2 (by omega), uk 3 (by omega), uk 4 (by omega), uk 5 (by omega), sl, s1.1 p hp, s2.1 p hp, s3.1 p hp]
    exact ⟨rfl, ⟨rfl, q.2.1⟩, ⟨rfl, q.2.2.1⟩, ⟨rfl, q.2.2.2.1⟩, rfl, rfl⟩
  · have g := h3 (j - 1) (by omega) p hp
    have uk : ∀ k, k < 6 → U' (180 * (min (r + 1) 12 - 1 - j) + 6 * p + k) = U (180 * (r - 1 - (j - 1)) + 6 * p + k) := fun k hk => by
      have := u.2 (min (r + 1) 12 - 1 - j) (6 * p + k) (by omega) (by omega)
      rw [show 180 * (min (r + 1) 12 - 1 - j) + 6 * p + k = 180 * (min (r + 1) 12 - 1 - j) + (6 * p + k) by omega, this]
      by_cases c : r < 12
      · rw [if_pos c]; congr 1; omega
      · rw [if_neg c]; congr 1; omega
    have u0 : U' (180 * (min (r + 1) 12 - 1 - j) + 6 * p) = U (180 * (r - 1 - (j - 1)) + 6 * p) := uk 0 (by omega)
    have sl : ((l + 1) % 12 + 12 - j) % 12 = (l + 12 - (j - 1)) % 12 := by omega
    have off : ∀ (X Y : Nat → Int32) (k : Nat), slot ((l + 1) % 12) k W X Y → Y (30 * ((l + 12 - (j - 1)) % 12) + p) = X (30 * ((l + 12 - (j - 1)) % 12) + p) := fun X Y k s => s.2 _ (by omega)
    rw [u0, uk 1 (by omega), uk 2 (by omega), uk 3 (by omega), uk 4 (by omega), uk 5 (by omega), sl, off A A' 1 s1, off B B' 2 s2, off C C' 3 s3]
    exact g
theorem PR_un {W : WD} {r l : Nat} {A B C U : Nat → Int32} (h : PR W r l A B C U) (hr : 0 < r) : (∀ i, i < 427 → unW W (r - 1) U i = ubW W l A B C i) ∧ PR (unW W (r - 1) U) (r - 1) ((l + 11) % 12) A B C U := by
  obtain ⟨h1, h2, h3⟩ := h
  have key : ∀ p k, p < 30 → k < 6 → unW W (r - 1) U (7 + 6 * p + k) = ubW W l A B C (7 + 6 * p + k) := fun p k hp hk => by
    have g := h3 0 hr p hp
    rw [show r - 1 - 0 = r - 1 by omega, show (l + 12 - 0) % 12 = l by omega] at g
    rw [ub_at hp hk]
    unfold unW
    rw [if_pos (by omega), show 180 * (r - 1) + (7 + 6 * p + k - 7) = 180 * (r - 1) + 6 * p + k by omega]
    have hk' : k = 0 ∨ k = 1 ∨ k = 2 ∨ k = 3 ∨ k = 4 ∨ k = 5 := by omega
    rcases hk' with rfl | rfl | rfl | rfl | rfl | rfl
    · exact g.1
    · exact g.2.1.1
    · exact g.2.2.1.1
    · exact g.2.2.2.1.1
    · exact g.2.2.2.2.1
    · exact g.2.2.2.2.2
  refine ⟨fun i hi => ?_, by omega, by omega, fun j hj p hp => ?_⟩
  · by_cases c : 7 ≤ i ∧ i < 187
    · rw [show i = 7 + 6 * ((i - 7) / 6) + (i - 7) % 6 by omega]
      exact key _ _ (by omega) (by omega)
    · rw [ub_o (by omega)]
      unfold unW
      rw [if_neg c]
  · have g := h3 (j + 1) (by omega) p hp
    have e0 : unW W (r - 1) U (7 + 6 * p) = W (7 + 6 * p) := by
      have := key p 0 hp (by omega)
      rw [ub_at hp (by omega)] at this; exact this
    have e4 : unW W (r - 1) U (7 + 6 * p + 4) = W (7 + 6 * p + 4) := by rw [key p 4 hp (by omega), ub_at hp (by omega)]; rfl
    have e5 : unW W (r - 1) U (7 + 6 * p + 5) = W (7 + 6 * p + 5) := by rw [key p 5 hp (by omega), ub_at hp (by omega)]; rfl
    rw [e0, e4, e5, show r - 1 - 1 - j = r - 1 - (j + 1) by omega, show ((l + 11) % 12 + 12 - j) % 12 = (l + 12 - (j + 1)) % 12 by omega]
    exact g
