/-! What a method leaves as it was; the class's object, the reference's object -/
def out (A : Nat → Prop) (h h' : mH) : Prop := h'.2 = h.2 ∧ h'.1.length = h.1.length ∧ ∀ b, ¬ A b → h'.1[b]? = h.1[b]?
theorem out.rf (A : Nat → Prop) (h : mH) : out A h h := ⟨rfl, rfl, fun _ _ => rfl⟩
theorem out.tr {A B : Nat → Prop} {h h1 h2 : mH} (p : out A h h1) (q : out B h1 h2) : out (fun b => A b ∨ B b) h h2 := ⟨q.1.trans p.1, q.2.1.trans p.2.1, fun b hb => (q.2.2 b (fun x => hb (.inr x))).trans (p.2.2 b (fun x => hb (.inl x)))⟩
theorem out.tr1 {A : Nat → Prop} {h h1 h2 : mH} (p : out A h h1) (q : out A h1 h2) : out A h h2 := ⟨q.1.trans p.1, q.2.1.trans p.2.1, fun b hb => (q.2.2 b hb).trans (p.2.2 b hb)⟩
theorem out.mo {A B : Nat → Prop} {h h1 : mH} (p : out A h h1) (s : ∀ b, A b → B b) : out B h h1 := ⟨p.1, p.2.1, fun b hb => p.2.2 b (fun x => hb (s b x))⟩
theorem out.st {A : Nat → Prop} (h : mH) {a : Nat} (c : mC) (ha : A a) : out A h (h.1.set a c, h.2) := ⟨rfl, List.length_set, fun b hb => hne (fun e => hb (e ▸ ha))⟩
theorem CA.out {A : Nat → Prop} {h h' : mH} {a : Nat} {W : WD} (H : CA h a W) (F : out A h h') (hA : ∀ b, A b → b < a ∨ a + 9 ≤ b) : CA h' a W := by
  have q : ∀ k, k < 9 → h'.1[a + k]? = h.1[a + k]? := fun k hk => F.2.2 _ (fun x => by have := hA _ x; omega)
  refine ⟨(q 0 (by omega)).trans H.1, fun k hk => ?_, ?_, ?_⟩
  · obtain ⟨f, e, z⟩ := H.2.1 k hk
    exact ⟨f, (by rw [Nat.add_assoc] at e ⊢; exact (q (1 + k) (by omega)).trans e), z⟩
  · obtain ⟨f, e, z⟩ := H.2.2.1
    exact ⟨f, (q 7 (by omega)).trans e, z⟩
  · obtain ⟨f, e, z⟩ := H.2.2.2
    exact ⟨f, (q 8 (by omega)).trans e, z⟩
def oM (m : Nat → Int32) : mC := .inr (8, [.int (m 0), .ref 67, .ref 68, .ref 69, .int (m 4), .ref 70, .int (m 6), .ref 71, .int (m 8), .int (m 9), .int (m 10), .int (m 11), .int (m 12), .int (m 13), .ref 72, .int (m 15), .ref 73, .ref 74, .ref 75, .int (m 19), .ref 76, .ref 77, .ref 78, .ref 79, .ref 80, .ref 81, .ref 82])
theorem gM0 {h : mH} {m : Nat → Int32} (H : h.1[66]? = some (oM m)) : m_gf h 66 8 0 = some (.int (m 0)) := by simp only [m_gf, H, oM, ↓reduceIte]; rfl
theorem pM0 {h : mH} {m : Nat → Int32} (H : h.1[66]? = some (oM m)) (x : Int32) : m_pf h 66 8 0 (.int x) = some (h.1.set 66 (oM (upd m 0 x)), h.2) := by simp only [m_pf, H]; rfl
theorem gM1 {h : mH} {m : Nat → Int32} (H : h.1[66]? = some (oM m)) : m_gf h 66 8 1 = some (.ref 67) := by simp only [m_gf, H, oM, ↓reduceIte]; rfl
theorem gM2 {h : mH} {m : Nat → Int32} (H : h.1[66]? = some (oM m)) : m_gf h 66 8 2 = some (.ref 68) := by simp only [m_gf, H, oM, ↓reduceIte]; rfl
theorem gM3 {h : mH} {m : Nat → Int32} (H : h.1[66]? = some (oM m)) : m_gf h 66 8 3 = some (.ref 69) := by simp only [m_gf, H, oM, ↓reduceIte]; rfl
theorem gM4 {h : mH} {m : Nat → Int32} (H : h.1[66]? = some (oM m)) : m_gf h 66 8 4 = some (.int (m 4)) := by simp only [m_gf, H, oM, ↓reduceIte]; rfl
theorem pM4 {h : mH} {m : Nat → Int32} (H : h.1[66]? = some (oM m)) (x : Int32) : m_pf h 66 8 4 (.int x) = some (h.1.set 66 (oM (upd m 4 x)), h.2) := by simp only [m_pf, H]; rfl
theorem gM5 {h : mH} {m : Nat → Int32} (H : h.1[66]? = some (oM m)) : m_gf h 66 8 5 = some (.ref 70) := by simp only [m_gf, H, oM, ↓reduceIte]; rfl
theorem gM6 {h : mH} {m : Nat → Int32} (H : h.1[66]? = some (oM m)) : m_gf h 66 8 6 = some (.int (m 6)) := by simp only [m_gf, H, oM, ↓reduceIte]; rfl
theorem pM6 {h : mH} {m : Nat → Int32} (H : h.1[66]? = some (oM m)) (x : Int32) : m_pf h 66 8 6 (.int x) = some (h.1.set 66 (oM (upd m 6 x)), h.2) := by simp only [m_pf, H]; rfl
theorem gM7 {h : mH} {m : Nat → Int32} (H : h.1[66]? = some (oM m)) : m_gf h 66 8 7 = some (.ref 71) := by simp only [m_gf, H, oM, ↓reduceIte]; rfl
theorem gM8 {h : mH} {m : Nat → Int32} (H : h.1[66]? = some (oM m)) : m_gf h 66 8 8 = some (.int (m 8)) := by simp only [m_gf, H, oM, ↓reduceIte]; rfl
theorem pM8 {h : mH} {m : Nat → Int32} (H : h.1[66]? = some (oM m)) (x : Int32) : m_pf h 66 8 8 (.int x) = some (h.1.set 66 (oM (upd m 8 x)), h.2) := by simp only [m_pf, H]; rfl
theorem gM9 {h : mH} {m : Nat → Int32} (H : h.1[66]? = some (oM m)) : m_gf h 66 8 9 = some (.int (m 9)) := by simp only [m_gf, H, oM, ↓reduceIte]; rfl
theorem pM9 {h : mH} {m : Nat → Int32} (H : h.1[66]? = some (oM m)) (x : Int32) : m_pf h 66 8 9 (.int x) = some (h.1.set 66 (oM (upd m 9 x)), h.2) := by simp only [m_pf, H]; rfl
theorem gM10 {h : mH} {m : Nat → Int32} (H : h.1[66]? = some (oM m)) : m_gf h 66 8 10 = some (.int (m 10)) := by simp only [m_gf, H, oM, ↓reduceIte]; rfl
theorem pM10 {h : mH} {m : Nat → Int32} (H : h.1[66]? = some (oM m)) (x : Int32) : m_pf h 66 8 10 (.int x) = some (h.1.set 66 (oM (upd m 10 x)), h.2) := by simp only [m_pf, H]; rfl
theorem gM11 {h : mH} {m : Nat → Int32} (H : h.1[66]? = some (oM m)) : m_gf h 66 8 11 = some (.int (m 11)) := by simp only [m_gf, H, oM, ↓reduceIte]; rfl
theorem pM11 {h : mH} {m : Nat → Int32} (H : h.1[66]? = some (oM m)) (x : Int32) : m_pf h 66 8 11 (.int x) = some (h.1.set 66 (oM (upd m 11 x)), h.2) := by simp only [m_pf, H]; rfl
theorem gM12 {h : mH} {m : Nat → Int32} (H : h.1[66]? = some (oM m)) : m_gf h 66 8 12 = some (.int (m 12)) := by simp only [m_gf, H, oM, ↓reduceIte]; rfl
theorem pM12 {h : mH} {m : Nat → Int32} (H : h.1[66]? = some (oM m)) (x : Int32) : m_pf h 66 8 12 (.int x) = some (h.1.set 66 (oM (upd m 12 x)), h.2) := by simp only [m_pf, H]; rfl
theorem gM13 {h : mH} {m : Nat → Int32} (H : h.1[66]? = some (oM m)) : m_gf h 66 8 13 = some (.int (m 13)) := by simp only [m_gf, H, oM, ↓reduceIte]; rfl
theorem pM13 {h : mH} {m : Nat → Int32} (H : h.1[66]? = some (oM m)) (x : Int32) : m_pf h 66 8 13 (.int x) = some (h.1.set 66 (oM (upd m 13 x)), h.2) := by simp only [m_pf, H]; rfl
theorem gM14 {h : mH} {m : Nat → Int32} (H : h.1[66]? = some (oM m)) : m_gf h 66 8 14 = some (.ref 72) := by simp only [m_gf, H, oM, ↓reduceIte]; rfl
theorem gM15 {h : mH} {m : Nat → Int32} (H : h.1[66]? = some (oM m)) : m_gf h 66 8 15 = some (.int (m 15)) := by simp only [m_gf, H, oM, ↓reduceIte]; rfl
theorem pM15 {h : mH} {m : Nat → Int32} (H : h.1[66]? = some (oM m)) (x : Int32) : m_pf h 66 8 15 (.int x) = some (h.1.set 66 (oM (upd m 15 x)), h.2) := by simp only [m_pf, H]; rfl
theorem gM16 {h : mH} {m : Nat → Int32} (H : h.1[66]? = some (oM m)) : m_gf h 66 8 16 = some (.ref 73) := by simp only [m_gf, H, oM, ↓reduceIte]; rfl
theorem gM17 {h : mH} {m : Nat → Int32} (H : h.1[66]? = some (oM m)) : m_gf h 66 8 17 = some (.ref 74) := by simp only [m_gf, H, oM, ↓reduceIte]; rfl
theorem gM18 {h : mH} {m : Nat → Int32} (H : h.1[66]? = some (oM m)) : m_gf h 66 8 18 = some (.ref 75) := by simp only [m_gf, H, oM, ↓reduceIte]; rfl
theorem gM19 {h : mH} {m : Nat → Int32} (H : h.1[66]? = some (oM m)) : m_gf h 66 8 19 = some (.int (m 19)) := by simp only [m_gf, H, oM, ↓reduceIte]; rfl
theorem pM19 {h : mH} {m : Nat → Int32} (H : h.1[66]? = some (oM m)) (x : Int32) : m_pf h 66 8 19 (.int x) = some (h.1.set 66 (oM (upd m 19 x)), h.2) := by simp only [m_pf, H]; rfl
theorem gM20 {h : mH} {m : Nat → Int32} (H : h.1[66]? = some (oM m)) : m_gf h 66 8 20 = some (.ref 76) := by simp only [m_gf, H, oM, ↓reduceIte]; rfl
theorem gM21 {h : mH} {m : Nat → Int32} (H : h.1[66]? = some (oM m)) : m_gf h 66 8 21 = some (.ref 77) := by simp only [m_gf, H, oM, ↓reduceIte]; rfl
theorem gM22 {h : mH} {m : Nat → Int32} (H : h.1[66]? = some (oM m)) : m_gf h 66 8 22 = some (.ref 78) := by simp only [m_gf, H, oM, ↓reduceIte]; rfl
theorem gM23 {h : mH} {m : Nat → Int32} (H : h.1[66]? = some (oM m)) : m_gf h 66 8 23 = some (.ref 79) := by simp only [m_gf, H, oM, ↓reduceIte]; rfl
theorem gM24 {h : mH} {m : Nat → Int32} (H : h.1[66]? = some (oM m)) : m_gf h 66 8 24 = some (.ref 80) := by simp only [m_gf, H, oM, ↓reduceIte]; rfl
theorem gM25 {h : mH} {m : Nat → Int32} (H : h.1[66]? = some (oM m)) : m_gf h 66 8 25 = some (.ref 81) := by simp only [m_gf, H, oM, ↓reduceIte]; rfl
theorem gM26 {h : mH} {m : Nat → Int32} (H : h.1[66]? = some (oM m)) : m_gf h 66 8 26 = some (.ref 82) := by simp only [m_gf, H, oM, ↓reduceIte]; rfl
abbrev gT : Type := Nat × Nat × Nat × Nat × Int32 × Int32
def oG (g : gT) : mC := .inr (7, [.ref (g.1), .ref (g.2.1), .ref 19, .ref (g.2.2.1), .ref (g.2.2.2.1), .ref 42, .ref 49, .ref 51, .ref 55, .ref 56, .ref 63, .ref 65, .int g.2.2.2.2.1, .int g.2.2.2.2.2])
theorem gG0 {h : mH} {g : gT} (H : h.1[0]? = some (oG g)) : m_gf h 0 7 0 = some (.ref (g.1)) := by simp only [m_gf, H, oG, ↓reduceIte]; rfl
theorem gG1 {h : mH} {g : gT} (H : h.1[0]? = some (oG g)) : m_gf h 0 7 1 = some (.ref (g.2.1)) := by simp only [m_gf, H, oG, ↓reduceIte]; rfl
theorem gG2 {h : mH} {g : gT} (H : h.1[0]? = some (oG g)) : m_gf h 0 7 2 = some (.ref (19)) := by simp only [m_gf, H, oG, ↓reduceIte]; rfl
theorem gG3 {h : mH} {g : gT} (H : h.1[0]? = some (oG g)) : m_gf h 0 7 3 = some (.ref (g.2.2.1)) := by simp only [m_gf, H, oG, ↓reduceIte]; rfl
theorem gG4 {h : mH} {g : gT} (H : h.1[0]? = some (oG g)) : m_gf h 0 7 4 = some (.ref (g.2.2.2.1)) := by simp only [m_gf, H, oG, ↓reduceIte]; rfl
theorem gG5 {h : mH} {g : gT} (H : h.1[0]? = some (oG g)) : m_gf h 0 7 5 = some (.ref (42)) := by simp only [m_gf, H, oG, ↓reduceIte]; rfl
theorem gG6 {h : mH} {g : gT} (H : h.1[0]? = some (oG g)) : m_gf h 0 7 6 = some (.ref (49)) := by simp only [m_gf, H, oG, ↓reduceIte]; rfl
theorem gG7 {h : mH} {g : gT} (H : h.1[0]? = some (oG g)) : m_gf h 0 7 7 = some (.ref (51)) := by simp only [m_gf, H, oG, ↓reduceIte]; rfl
theorem gG8 {h : mH} {g : gT} (H : h.1[0]? = some (oG g)) : m_gf h 0 7 8 = some (.ref (55)) := by simp only [m_gf, H, oG, ↓reduceIte]; rfl
theorem gG9 {h : mH} {g : gT} (H : h.1[0]? = some (oG g)) : m_gf h 0 7 9 = some (.ref (56)) := by simp only [m_gf, H, oG, ↓reduceIte]; rfl
theorem gG10 {h : mH} {g : gT} (H : h.1[0]? = some (oG g)) : m_gf h 0 7 10 = some (.ref (63)) := by simp only [m_gf, H, oG, ↓reduceIte]; rfl
theorem gG11 {h : mH} {g : gT} (H : h.1[0]? = some (oG g)) : m_gf h 0 7 11 = some (.ref (65)) := by simp only [m_gf, H, oG, ↓reduceIte]; rfl
theorem gG12 {h : mH} {g : gT} (H : h.1[0]? = some (oG g)) : m_gf h 0 7 12 = some (.int g.2.2.2.2.1) := by simp only [m_gf, H, oG, ↓reduceIte]; rfl
theorem gG13 {h : mH} {g : gT} (H : h.1[0]? = some (oG g)) : m_gf h 0 7 13 = some (.int g.2.2.2.2.2) := by simp only [m_gf, H, oG, ↓reduceIte]; rfl
def MS (h : mH) (m : Nat → Int32) (W : WD) : Prop := h.1[66]? = some (oM m) ∧ h.1[67]? = some (aI 2101 W)
theorem MS.w {h : mH} {m : Nat → Int32} {W : WD} (H : MS h m W) : MW h W := ⟨by simp only [m_isc, H.1, oM]; rfl, gM1 H.1, H.2⟩
theorem MS.isc {h : mH} {m : Nat → Int32} {W : WD} (H : MS h m W) : m_isc h 66 8 = true := H.w.1
theorem MS.out {A : Nat → Prop} {h h' : mH} {m : Nat → Int32} {W : WD} (H : MS h m W) (F : out A h h') (h6 : ¬ A 66) (h7 : ¬ A 67) : MS h' m W := ⟨(F.2.2 66 h6).trans H.1, (F.2.2 67 h7).trans H.2⟩
theorem upd_upd (f : Nat → Int32) (k : Nat) (x y : Int32) : upd (upd f k x) k y = upd f k y := by
  funext j
  unfold upd
  split <;> rfl
/-- the heap with 'thrown' told anew -/
def tH (h : mH) (m : Nat → Int32) (t : Int32) : mH := (h.1.set 66 (oM (upd m 0 t)), h.2)
theorem MS.t {h : mH} {m : Nat → Int32} {W : WD} (H : MS h m W) (t : Int32) : MS (tH h m t) (upd m 0 t) W := ⟨hget H.1, (hne (by decide)).trans H.2⟩
theorem tH_tH (h : mH) (m : Nat → Int32) (t u : Int32) : tH (tH h m t) (upd m 0 t) u = tH h m u := by unfold tH; rw [List.set_set, upd_upd]
theorem tH_out (h : mH) (m : Nat → Int32) (t : Int32) : out (fun b => b = 66) h (tH h m t) := out.st h _ rfl
theorem pMt {h : mH} {m : Nat → Int32} {W : WD} (H : MS h m W) (x : Int32) : m_pf h 66 8 0 (.int x) = some (tH h m x) := pM0 H.1 x
section Throws
variable {h : mH} {m : Nat → Int32} {W : WD}
theorem throwsIf_ev (O : mO) (d : Nat) (H : MS h m W) (b : Bool) (c : Int32) : ev O (d) 149 0 [.ref 66, .int (bI b), .int c] [] h = some (.inl (some (.int (bI b))), if b = true then tH h m c else h) := by
  cases b
  · simp only [e_149_0, e_149_1, e_149_4, e_149_5, e_149_6, e_149_9, e_149_10, Option.bind_some, Option.bind_none, m_kt, m_kn, Option.toList_some, Option.toList_none, List.nil_append, List.cons_append, List.append_nil, ltn, ite_not, ↓reduceIte, true_or, or_true, bI_f, i0_0, z01, Bool.false_eq_true]
  · simp only [e_149_0, e_149_1, e_149_4, e_149_5, e_149_6, e_149_9, e_149_10, Option.bind_some, Option.bind_none, m_kt, m_kn, Option.toList_some, Option.toList_none, List.nil_append, List.cons_append, List.append_nil, ltn, ite_not, ↓reduceIte, true_or, or_true, bI_t, i1_0, o01, pMt H]
theorem thr1_ev (O : mO) (d : Nat) (H : MS h m W) (c : Int32) : ev O (d) 149 0 [.ref 66, .int 1, .int c] [] h = some (.inl (some (.int (1))), tH h m c) := throwsIf_ev O d H true c
theorem thr0_ev (O : mO) (d : Nat) (H : MS h m W) (c : Int32) : ev O (d) 149 0 [.ref 66, .int 0, .int c] [] h = some (.inl (some (.int (0))), h) := throwsIf_ev O d H false c
theorem thrown_ev (O : mO) (d : Nat) (H : MS h m W) : ev O (d) 148 0 [.ref 66] [] h = some (.inl (some (.int (m 0))), h) := by
  simp only [e_148_0, e_148_1, e_148_4, Option.bind_some, Option.bind_none, m_kt, m_kn, Option.toList_some, Option.toList_none, List.nil_append, List.cons_append, List.append_nil, ltn, ite_not, ↓reduceIte, true_or, or_true, gM0 H.1]
end Throws
theorem inB_f {x lo hi : Int32} : inB x lo hi = false ↔ (¬ lo ≤ x ∨ ¬ x ≤ hi) := by unfold inB; simp only [Bool.and_eq_false_iff, decide_eq_false_iff_not]
theorem inB_t {x lo hi : Int32} : inB x lo hi = true ↔ (lo ≤ x ∧ x ≤ hi) := by unfold inB; simp only [Bool.and_eq_true, decide_eq_true_eq]
/-- below n is up to n less 1 -/
theorem lt_pred {x : Int32} {n : Nat} (hn : n < 2 ^ 30) : (nI n ≤ x) = ¬ (x ≤ nI n - 1) := by
  apply propext
  have h1 := nI_toInt (show n < 2 ^ 31 by omega)
  have h2 := pk_sub_toInt (a := n) (b := 1) (by omega) (by omega)
  have h3 : nI n - 1 = nI n - nI 1 := rfl
  rw [i_le, i_le, h1, h3, h2]
  omega
theorem inB_ix {x : Int32} {n : Nat} (hn : n < 2 ^ 30) (h : inB x 0 (nI n - 1) = true) : ∃ p, p < n ∧ x = nI p := by
  rw [inB_t] at h
  rcases pk_ix x (show n < 2 ^ 31 by omega) with q | q | q
  · exact absurd h.1 (Int32.not_le.mpr q)
  · rw [lt_pred hn] at q; exact absurd h.2 q
  · exact q
theorem inB_nI {p n : Nat} (hp : p < n) (hn : n < 2 ^ 30) : inB (nI p) 0 (nI n - 1) = true := by
  rw [inB_t]
  refine ⟨nI_pos' (by omega), ?_⟩
  have := lt_pred (x := nI p) hn
  by_cases q : nI p ≤ nI n - 1
  · exact q
  · rw [← this] at q
    exact absurd q (nI_ge hp (by omega))
theorem inB_h {x : Int32} (h : inB x 0 23 = true) : ∃ p, p < 24 ∧ x = nI p := inB_ix (n := 24) (by decide) h
theorem inB_o {x : Int32} (h : inB x 0 7 = true) : ∃ p, p < 8 ∧ x = nI p := inB_ix (n := 8) (by decide) h
theorem inB_n {x : Int32} {n : Nat} (hn : n + 1 < 2 ^ 30) (h : inB x 0 (nI n) = true) : ∃ p, p ≤ n ∧ x = nI p := by
  have e : nI (n + 1) - 1 = nI n := nI_pred n
  rw [← e] at h
  obtain ⟨p, a, b⟩ := inB_ix hn h
  exact ⟨p, by omega, b⟩
section Checks
variable {h : mH} {g : gT} {W : WD}
theorem iscG (G : h.1[0]? = some (oG g)) : m_isc h 0 7 = true := by simp only [m_isc, G, oG]; rfl
theorem checkPane_ev (O : mO) (d : Nat) (G : h.1[0]? = some (oG g)) (H : CA h g.1 W) (R : rng W) (x : Int32) : ev O (d) 142 0 [.ref 0, .int x] [] h = if inB x 0 (nI (pN W) - 1) = true then some (.inl none, h) else some (.inr 1, (h.1, h.2 + 1)) := by
  have hN := pN_le R
  simp only [e_142_0, e_142_1, e_142_4, e_142_5, e_142_6, e_142_9, e_142_12, e_142_15, e_142_23, Option.bind_some, Option.bind_none, m_kt, m_kn, Option.toList_some, Option.toList_none, List.nil_append, List.cons_append, List.append_nil, ltn, ite_not, ↓reduceIte, true_or, or_true, gG0 G, gC2 H, lt_pred (show pN W < 2 ^ 30 by omega)]
  unfold inB
  by_cases h1 : 0 ≤ x <;> by_cases h2 : x ≤ nI (pN W) - 1 <;> simp [h1, h2]
theorem checkSeer_ev (O : mO) (d : Nat) (G : h.1[0]? = some (oG g)) (H : CA h g.1 W) (R : rng W) (x : Int32) : ev O (d) 143 0 [.ref 0, .int x] [] h = if inB x 0 (nI (sN W) - 1) = true then some (.inl none, h) else some (.inr 1, (h.1, h.2 + 1)) := by
  have hN := sN_le R
  simp only [e_143_0, e_143_1, e_143_4, e_143_5, e_143_6, e_143_9, e_143_12, e_143_15, e_143_23, Option.bind_some, Option.bind_none, m_kt, m_kn, Option.toList_some, Option.toList_none, List.nil_append, List.cons_append, List.append_nil, ltn, ite_not, ↓reduceIte, true_or, or_true, gG0 G, gC14 H, rW5 R, lt_pred (show sN W < 2 ^ 30 by omega)]
  unfold inB
  by_cases h1 : 0 ≤ x <;> by_cases h2 : x ≤ nI (sN W) - 1 <;> simp [h1, h2]
theorem checkHour_ev (O : mO) (d : Nat) (h : mH) (x : Int32) : ev O (d) 145 0 [.int x] [] h = if inB x 0 23 = true then some (.inl none, h) else some (.inr 1, (h.1, h.2 + 1)) := by
  have q : ((24 : Int32) ≤ x) = ¬ (x ≤ 23) := lt_pred (n := 24) (by decide)
  simp only [e_145_0, e_145_1, e_145_4, e_145_5, e_145_7, e_145_10, e_145_18, Option.bind_some, Option.bind_none, m_kt, m_kn, Option.toList_some, Option.toList_none, List.nil_append, List.cons_append, List.append_nil, ltn, ite_not, ↓reduceIte, true_or, or_true, q]
  unfold inB
  by_cases h1 : 0 ≤ x <;> by_cases h2 : x ≤ 23 <;> simp [h1, h2]
theorem checkOwner_ev (O : mO) (d : Nat) (h : mH) (x : Int32) : ev O (d) 146 0 [.int x] [] h = if inB x 0 7 = true then some (.inl none, h) else some (.inr 1, (h.1, h.2 + 1)) := by
  have q : ((8 : Int32) ≤ x) = ¬ (x ≤ 7) := lt_pred (n := 8) (by decide)
  simp only [e_146_0, e_146_1, e_146_4, e_146_5, e_146_7, e_146_10, e_146_18, Option.bind_some, Option.bind_none, m_kt, m_kn, Option.toList_some, Option.toList_none, List.nil_append, List.cons_append, List.append_nil, ltn, ite_not, ↓reduceIte, true_or, or_true, q]
  unfold inB
  by_cases h1 : 0 ≤ x <;> by_cases h2 : x ≤ 7 <;> simp [h1, h2]
theorem checkWithin_ev (O : mO) (d : Nat) (h : mH) (x lo hi : Int32) : ev O (d) 147 0 [.int x, .int lo, .int hi] [] h = if inB x lo hi = true then some (.inl none, h) else some (.inr 0, (h.1, h.2 + 1)) := by
  simp only [e_147_0, e_147_1, e_147_2, e_147_5, e_147_6, e_147_7, e_147_10, e_147_18, Option.bind_some, Option.bind_none, m_kt, m_kn, Option.toList_some, Option.toList_none, List.nil_append, List.cons_append, List.append_nil, ltn, ite_not, ↓reduceIte, true_or, or_true]
  unfold inB
  by_cases h1 : lo ≤ x <;> by_cases h2 : x ≤ hi <;> simp [h1, h2]
theorem checkWay_ev (O : mO) (d : Nat) (G : h.1[0]? = some (oG g)) (H : CA h g.1 W) (R : rng W) (x y z : Int32) : ev O (d + 1) 144 0 [.ref 0, .int x, .int y, .int z] [] h = if (inB x 0 (nI (pN W) - 1) && inB y 0 (nI (pN W) - 1) && inB z 0 23) = true then some (.inl none, h) else some (.inr 1, (h.1, h.2 + 1)) := by
  cases e1 : inB x 0 (nI (pN W) - 1)
  · simp [e_144_0, e_144_1, e_144_2, e_144_5, e_144_6, e_144_7, e_144_10, e_144_11, e_144_14, iscG G, checkPane_ev O d G H R, e1, m_kt]
  · cases e2 : inB y 0 (nI (pN W) - 1)
    · simp [e_144_0, e_144_1, e_144_2, e_144_5, e_144_6, e_144_7, e_144_10, e_144_11, e_144_14, iscG G, checkPane_ev O d G H R, e1, e2, m_kt]
    · cases e3 : inB z 0 23 <;> simp [e_144_0, e_144_1, e_144_2, e_144_5, e_144_6, e_144_7, e_144_10, e_144_11, e_144_14, iscG G, checkPane_ev O d G H R, checkHour_ev, e1, e2, e3, m_kt]
end Checks
