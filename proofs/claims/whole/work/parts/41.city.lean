/-! The class City: an object at place a, its rows at a + 1 .. a + 8. c.1: its numbers by their fields' places; c.2: its rows (0 thick, 1 heat, 2 sand, 3 cracks, 4 owner, 5 lamp, 6 carts, 7 offers) -/
abbrev CS : Type := (Nat → Int32) × (Nat → Nat → Int32)
def oC (a : Nat) (n : Nat → Int32) : mC := .inr (0, [.int (n 0), .int (n 1), .int (n 2), .int (n 3), .int (n 4), .int (n 5), .ref (a + 1), .ref (a + 2), .ref (a + 3), .ref (a + 4), .ref (a + 5), .ref (a + 6), .int (n 12), .ref (a + 7), .int (n 14), .ref (a + 8), .int (n 16), .int (n 17)])
def rl : Nat → Nat
  | 6 => 60
  | 7 => 180
  | _ => 30
def cAt (h : mH) (a : Nat) (c : CS) : Prop := h.1[a]? = some (oC a c.1) ∧ ∀ k, k < 8 → h.1[a + 1 + k]? = some (aI (rl k) (c.2 k))
section City
variable {h : mH} {a : Nat} {c : CS}
theorem cAt.o (H : cAt h a c) : h.1[a]? = some (oC a c.1) := H.1
theorem cAt.r0 (H : cAt h a c) : h.1[a + 1]? = some (aI 30 (c.2 0)) := H.2 0 (by omega)
theorem cAt.r1 (H : cAt h a c) : h.1[a + 2]? = some (aI 30 (c.2 1)) := H.2 1 (by omega)
theorem cAt.r2 (H : cAt h a c) : h.1[a + 3]? = some (aI 30 (c.2 2)) := H.2 2 (by omega)
theorem cAt.r3 (H : cAt h a c) : h.1[a + 4]? = some (aI 30 (c.2 3)) := H.2 3 (by omega)
theorem cAt.r4 (H : cAt h a c) : h.1[a + 5]? = some (aI 30 (c.2 4)) := H.2 4 (by omega)
theorem cAt.r5 (H : cAt h a c) : h.1[a + 6]? = some (aI 30 (c.2 5)) := H.2 5 (by omega)
theorem cAt.r6 (H : cAt h a c) : h.1[a + 7]? = some (aI 60 (c.2 6)) := H.2 6 (by omega)
theorem cAt.r7 (H : cAt h a c) : h.1[a + 8]? = some (aI 180 (c.2 7)) := H.2 7 (by omega)
theorem cAt.isc (H : cAt h a c) : m_isc h a 0 = true := by simp only [m_isc, H.1, oC]; rfl
theorem gC0 (H : cAt h a c) : m_gf h a 0 0 = some (.int (c.1 0)) := by simp only [m_gf, H.1, oC]; rfl
theorem gC1 (H : cAt h a c) : m_gf h a 0 1 = some (.int (c.1 1)) := by simp only [m_gf, H.1, oC]; rfl
theorem gC2 (H : cAt h a c) : m_gf h a 0 2 = some (.int (c.1 2)) := by simp only [m_gf, H.1, oC]; rfl
theorem gC3 (H : cAt h a c) : m_gf h a 0 3 = some (.int (c.1 3)) := by simp only [m_gf, H.1, oC]; rfl
theorem gC4 (H : cAt h a c) : m_gf h a 0 4 = some (.int (c.1 4)) := by simp only [m_gf, H.1, oC]; rfl
theorem gC5 (H : cAt h a c) : m_gf h a 0 5 = some (.int (c.1 5)) := by simp only [m_gf, H.1, oC]; rfl
theorem gC6 (H : cAt h a c) : m_gf h a 0 6 = some (.ref (a + 1)) := by simp only [m_gf, H.1, oC]; rfl
theorem gC7 (H : cAt h a c) : m_gf h a 0 7 = some (.ref (a + 2)) := by simp only [m_gf, H.1, oC]; rfl
theorem gC8 (H : cAt h a c) : m_gf h a 0 8 = some (.ref (a + 3)) := by simp only [m_gf, H.1, oC]; rfl
theorem gC9 (H : cAt h a c) : m_gf h a 0 9 = some (.ref (a + 4)) := by simp only [m_gf, H.1, oC]; rfl
theorem gC10 (H : cAt h a c) : m_gf h a 0 10 = some (.ref (a + 5)) := by simp only [m_gf, H.1, oC]; rfl
theorem gC11 (H : cAt h a c) : m_gf h a 0 11 = some (.ref (a + 6)) := by simp only [m_gf, H.1, oC]; rfl
theorem gC12 (H : cAt h a c) : m_gf h a 0 12 = some (.int (c.1 12)) := by simp only [m_gf, H.1, oC]; rfl
theorem gC13 (H : cAt h a c) : m_gf h a 0 13 = some (.ref (a + 7)) := by simp only [m_gf, H.1, oC]; rfl
theorem gC14 (H : cAt h a c) : m_gf h a 0 14 = some (.int (c.1 14)) := by simp only [m_gf, H.1, oC]; rfl
theorem gC15 (H : cAt h a c) : m_gf h a 0 15 = some (.ref (a + 8)) := by simp only [m_gf, H.1, oC]; rfl
theorem gC16 (H : cAt h a c) : m_gf h a 0 16 = some (.int (c.1 16)) := by simp only [m_gf, H.1, oC]; rfl
theorem gC17 (H : cAt h a c) : m_gf h a 0 17 = some (.int (c.1 17)) := by simp only [m_gf, H.1, oC]; rfl
/-- reads that give a number -/
def in_ (x : Int32) (n : Nat) : Prop := ∃ k, k < n ∧ x = nI k
theorem isThere_ev (O : mO) (d : Nat) (H : cAt h a c) (k : Nat) (hk : k < 12) (hour : Int32) :
    ev O d 9 0 [.ref a, .int (nI k), .int hour, mJ, mJ] [] h = some (.inl (some (.int (if c.2 6 (5 * k + 2) ≤ c.2 6 (5 * k + 3) then (if c.2 6 (5 * k + 2) ≤ hour ∧ hour ≤ c.2 6 (5 * k + 3) then 1 else 0) else (if c.2 6 (5 * k + 2) ≤ hour ∨ hour ≤ c.2 6 (5 * k + 3) then 1 else 0)))), h) := by
  have e5 : (5 : Int32) * nI k = nI (5 * k) := by rw [← pk_mul]; rfl
  have e2 : nI (5 * k) + 2 = nI (5 * k + 2) := by rw [← nI_add]; rfl
  have e3 : nI (5 * k) + 3 = nI (5 * k + 3) := by rw [← nI_add]; rfl
  simp only [e_9_0, e_9_1, e_9_4, e_9_5, e_9_6, e_9_7, e_9_8, e_9_9, e_9_10, e_9_11, e_9_12, e_9_15, e_9_16, e_9_17, e_9_18, e_9_19, e_9_20, e_9_21, e_9_23, e_9_24, e_9_26, e_9_29, e_9_30, e_9_31, e_9_34, e_9_35, e_9_37, e_9_40, e_9_41, e_9_44, e_9_45, e_9_48, e_9_49, e_9_50, e_9_53, e_9_54, e_9_56, e_9_59, e_9_60, e_9_63, e_9_64, gC13 H, Option.bind_some, Option.bind_none, m_kt, m_kn, Option.toList_some, Option.toList_none, List.nil_append, List.cons_append, List.append_nil, e5, e2, e3, ai_n H.r6 (show 5 * k + 2 < 60 by omega) (by decide), ai_n H.r6 (show 5 * k + 3 < 60 by omega) (by decide)]
  sorry
end City
