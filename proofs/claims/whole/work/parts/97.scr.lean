/-! Cells that no call reads before it writes them: SH; what a question leaves as it was: sc -/
def tab : List (Nat × Nat) := [(33, 7), (34, 20), (40, 7), (41, 20), (47, 7), (48, 20), (57, 720), (58, 30), (59, 30), (60, 24), (61, 24), (62, 49), (72, 5), (73, 400), (74, 6), (75, 64), (76, 8), (77, 49), (78, 49), (79, 31), (80, 30), (81, 30), (82, 3)]
def scb (b : Nat) : Bool := decide (b = 33 ∨ b = 34 ∨ b = 40 ∨ b = 41 ∨ b = 47 ∨ b = 48 ∨ (55 ≤ b ∧ b ≤ 65) ∨ (72 ≤ b ∧ b ≤ 82))
def SCR (b : Nat) : Prop := scb b = true
def oMk (s : Int32) : mC := .inr (3, [.ref 64, .int s])
def SH (h : mH) : Prop := (∀ b n, (b, n) ∈ tab → ∃ f, h.1[b]? = some (aI n f)) ∧ KA h ∧ (∃ x y z, h.1[56]? = some (oWk x y z)) ∧ (∃ s, h.1[63]? = some (oMk s)) ∧ (∃ f, h.1[64]? = some (aL 64 f)) ∧ (∃ f, h.1[65]? = some (aL 31 f)) ∧ (∃ f, h.1[83]? = some (aL 1 f))
def sc (h h' : mH) : Prop := out SCR h h' ∧ (SH h → SH h')
theorem sc.rf (h : mH) : sc h h := ⟨out.rf _ h, id⟩
theorem sc.tr {h h1 h2 : mH} (p : sc h h1) (q : sc h1 h2) : sc h h2 := ⟨p.1.tr1 q.1, fun s => q.2 (p.2 s)⟩
theorem tab_scb : ∀ p ∈ tab, scb p.1 = true ∧ p.1 ≠ 55 ∧ p.1 ≠ 56 ∧ p.1 ≠ 63 ∧ p.1 ≠ 64 ∧ p.1 ≠ 65 ∧ p.1 ≠ 83 := by decide
theorem tab_one : ∀ p ∈ tab, ∀ q ∈ tab, p.1 = q.1 → p.2 = q.2 := by decide
theorem SH.at {h : mH} (S : SH h) {b n : Nat} (m : (b, n) ∈ tab) : ∃ f, h.1[b]? = some (aI n f) := S.1 b n m
theorem sc_set {h : mH} {b n : Nat} (m : (b, n) ∈ tab) (v : Nat → Int32) : sc h (h.1.set b (aI n v), h.2) := by
  obtain ⟨t1, t2, t3, t4, t5, t6, t7⟩ := tab_scb _ m
  simp only at t1 t2 t3 t4 t5 t6 t7
  refine ⟨out.st h _ t1, fun S => ⟨fun b' n' m' => ?_, ?_, ?_, ?_, ?_, ?_, ?_⟩⟩
  · by_cases e : b = b'
    · have := tab_one _ m _ m' e
      simp only at this
      subst e this
      obtain ⟨f, hf⟩ := S.1 b n m
      exact ⟨v, hget hf⟩
    · obtain ⟨f, hf⟩ := S.1 b' n' m'
      exact ⟨f, (hne e).trans hf⟩
  · exact S.2.1.elim fun s e => ⟨s, (hne t2).trans e⟩
  · exact S.2.2.1.elim fun x e => e.elim fun y e => e.elim fun z e => ⟨x, y, z, (hne t3).trans e⟩
  · exact S.2.2.2.1.elim fun s e => ⟨s, (hne t4).trans e⟩
  · exact S.2.2.2.2.1.elim fun s e => ⟨s, (hne t5).trans e⟩
  · exact S.2.2.2.2.2.1.elim fun s e => ⟨s, (hne t6).trans e⟩
  · exact S.2.2.2.2.2.2.elim fun s e => ⟨s, (hne t7).trans e⟩
theorem tab_ne {b n : Nat} (m : (b, n) ∈ tab) : scb b = true ∧ b ≠ 55 ∧ b ≠ 56 ∧ b ≠ 63 ∧ b ≠ 64 ∧ b ≠ 65 ∧ b ≠ 83 := tab_scb _ m
theorem sc_hk {h : mH} (s : Nat) : sc h (hk h s) := by
  refine ⟨out.st h _ (by decide : scb 55 = true), fun S => ⟨fun b n m => ?_, hk_KA S.2.1 s, ?_, ?_, ?_, ?_, ?_⟩⟩
  · obtain ⟨f, e⟩ := S.1 b n m
    exact ⟨f, (hne (tab_ne m).2.1.symm).trans e⟩
  · exact S.2.2.1.elim fun x e => e.elim fun y e => e.elim fun z e => ⟨x, y, z, (hne (by decide)).trans e⟩
  · exact S.2.2.2.1.elim fun s e => ⟨s, (hne (by decide)).trans e⟩
  · exact S.2.2.2.2.1.elim fun s e => ⟨s, (hne (by decide)).trans e⟩
  · exact S.2.2.2.2.2.1.elim fun s e => ⟨s, (hne (by decide)).trans e⟩
  · exact S.2.2.2.2.2.2.elim fun s e => ⟨s, (hne (by decide)).trans e⟩
theorem SH_WK {h : mH} (S : SH h) : ∃ f t s L B BT OP OT, WK h f t s L B BT OP OT := by
  obtain ⟨x, y, z, e6⟩ := S.2.2.1
  obtain ⟨L, e7⟩ := S.1 57 720 (by decide)
  obtain ⟨B, e8⟩ := S.1 58 30 (by decide)
  obtain ⟨BT, e9⟩ := S.1 59 30 (by decide)
  obtain ⟨OP, e10⟩ := S.1 60 24 (by decide)
  obtain ⟨OT, e11⟩ := S.1 61 24 (by decide)
  exact ⟨x, y, z, L, B, BT, OP, OT, e6, e7, e8, e9, e10, e11, S.1 62 49 (by decide)⟩
theorem tab_ws : ∀ p ∈ tab, WS p.1 → p = (57, 720) ∨ p = (58, 30) ∨ p = (59, 30) ∨ p = (60, 24) ∨ p = (61, 24) ∨ p = (62, 49) := by
  have : ∀ p ∈ tab, (56 ≤ p.1 ∧ p.1 ≤ 62) → p = (57, 720) ∨ p = (58, 30) ∨ p = (59, 30) ∨ p = (60, 24) ∨ p = (61, 24) ∨ p = (62, 49) := by decide
  exact this
theorem sc_ws {h h' : mH} {f t s : Int32} {L B BT OP OT : Nat → Int32} (F : out WS h h') (K : WK h' f t s L B BT OP OT) : sc h h' := by
  obtain ⟨e6, e7, e8, e9, e10, e11, e12⟩ := K
  have nw : ∀ b, b < 56 ∨ 62 < b → ¬ WS b := fun b hb q => by unfold WS at q; omega
  refine ⟨F.mo (fun b hb => ?_), fun S => ⟨fun b n m => ?_, ?_, ⟨f, t, s, e6⟩, ?_, ?_, ?_, ?_⟩⟩
  · unfold WS at hb
    unfold SCR scb
    rw [decide_eq_true_eq]; omega
  · by_cases c : WS b
    · rcases tab_ws _ m c with q | q | q | q | q | q
      · cases q; exact ⟨L, e7⟩
      · cases q; exact ⟨B, e8⟩
      · cases q; exact ⟨BT, e9⟩
      · cases q; exact ⟨OP, e10⟩
      · cases q; exact ⟨OT, e11⟩
      · cases q; exact e12
    · obtain ⟨f, e⟩ := S.1 b n m
      exact ⟨f, (F.2.2 b c).trans e⟩
  · exact S.2.1.elim fun s e => ⟨s, (F.2.2 55 (nw _ (by omega))).trans e⟩
  · exact S.2.2.2.1.elim fun s e => ⟨s, (F.2.2 63 (nw _ (by omega))).trans e⟩
  · exact S.2.2.2.2.1.elim fun s e => ⟨s, (F.2.2 64 (nw _ (by omega))).trans e⟩
  · exact S.2.2.2.2.2.1.elim fun s e => ⟨s, (F.2.2 65 (nw _ (by omega))).trans e⟩
  · exact S.2.2.2.2.2.2.elim fun s e => ⟨s, (F.2.2 83 (nw _ (by omega))).trans e⟩
theorem sc_at {h h' : mH} (s : sc h h') {b : Nat} (hb : scb b = false) : h'.1[b]? = h.1[b]? := s.1.2.2 b (fun q => by unfold SCR at q; rw [hb] at q; cases q)
theorem scb_lo {b : Nat} (h : b < 33) : scb b = false := by unfold scb; rw [decide_eq_false_iff_not]; omega
theorem sc_CA {h h' : mH} {a : Nat} {W : WD} (s : sc h h') (H : CA h a W) (ha : a < 20) : CA h' a W := by
  have q : ∀ k, k < 9 → h'.1[a + k]? = h.1[a + k]? := fun k hk => sc_at s (scb_lo (by omega))
  refine ⟨(q 0 (by omega)).trans H.1, fun k hk => ?_, ?_, ?_⟩
  · obtain ⟨f, e, z⟩ := H.2.1 k hk
    exact ⟨f, (by rw [Nat.add_assoc] at e ⊢; exact (q (1 + k) (by omega)).trans e), z⟩
  · obtain ⟨f, e, z⟩ := H.2.2.1
    exact ⟨f, (q 7 (by omega)).trans e, z⟩
  · obtain ⟨f, e, z⟩ := H.2.2.2
    exact ⟨f, (q 8 (by omega)).trans e, z⟩
theorem sc_MS {h h' : mH} {m : Nat → Int32} {W : WD} (s : sc h h') (H : MS h m W) : MS h' m W := ⟨(sc_at s (by decide)).trans H.1, (sc_at s (by decide)).trans H.2⟩
theorem sc_hR {h : mH} (v : Nat → Int32) : sc h (hR h v) := sc_set (by decide) v
theorem sc_hE {h : mH} (v : Nat → Int32) : sc h (hE h v) := sc_set (by decide) v
/-- what the calls of the class need -/
def CG (h : mH) (g : gT) (W : WD) : Prop := h.1[0]? = some (oG g) ∧ CA h g.1 W ∧ g.1 < 20 ∧ rng W ∧ SH h
theorem sc_CG {h h' : mH} {g : gT} {W : WD} (s : sc h h') (C : CG h g W) : CG h' g W := ⟨(sc_at s (by decide)).trans C.1, sc_CA s C.2.1 C.2.2.1, C.2.2.1, C.2.2.2.1, s.2 C.2.2.2.2⟩
/-- a question to the class: it throws e, or answers v -/
def GA (r : Option mR) (h : mH) : Option Nat → Value → Prop
  | some e, _ => r = some (.inr e, (h.1, h.2 + 1))
  | none, v => ∃ h', r = some (.inl (some v), h') ∧ sc h h'
/-- a question to the reference: thrown is t, the answer v -/
def MA (r : Option mR) (h : mH) (m : Nat → Int32) (t : Int32) (v : Value) : Prop := ∃ h', r = some (.inl (some v), h') ∧ sc (tH h m t) h'
theorem SH_tH {h : mH} (S : SH h) (m : Nat → Int32) (t : Int32) : SH (tH h m t) := by
  refine ⟨fun b n q => ?_, ?_, ?_, ?_, ?_, ?_, ?_⟩
  · obtain ⟨f, e⟩ := S.1 b n q
    refine ⟨f, (hne (fun z => ?_)).trans e⟩
    subst z
    exact absurd (tab_ne q).1 (by decide)
  · exact S.2.1.elim fun s e => ⟨s, (hne (by decide)).trans e⟩
  · exact S.2.2.1.elim fun x e => e.elim fun y e => e.elim fun z e => ⟨x, y, z, (hne (by decide)).trans e⟩
  · exact S.2.2.2.1.elim fun s e => ⟨s, (hne (by decide)).trans e⟩
  · exact S.2.2.2.2.1.elim fun s e => ⟨s, (hne (by decide)).trans e⟩
  · exact S.2.2.2.2.2.1.elim fun s e => ⟨s, (hne (by decide)).trans e⟩
  · exact S.2.2.2.2.2.2.elim fun s e => ⟨s, (hne (by decide)).trans e⟩
