/-! Seer by seer: what the reference finds is the class's best way -/
/-- on sale when the seers ahead of s have theirs -/
def cR (c : Nat → Bool) (u : Nat → Nat) : Nat → Nat → Bool
  | 0, p => c p
  | s + 1, p => cR c u s p && !decide (u s = p + 1)
theorem cR_iff {c : Nat → Bool} {u : Nat → Nat} {p : Nat} : ∀ s, cR c u s p = true ↔ (c p = true ∧ ∀ t, t < s → u t ≠ p + 1)
  | 0 => by simp [cR]
  | s + 1 => by
    rw [cR, Bool.and_eq_true, cR_iff s, Bool.not_eq_true', decide_eq_false_iff_not]
    constructor
    · rintro ⟨⟨a, b⟩, d⟩
      refine ⟨a, fun t ht => ?_⟩
      by_cases z : t = s
      · subst z; exact d
      · exact b t (by omega)
    · rintro ⟨a, b⟩
      exact ⟨⟨a, fun t ht => b t (by omega)⟩, b s (by omega)⟩
def cX (c : Nat → Bool) (p : Nat) : Nat → Bool := fun r => c r && !decide (r = p)
/-- pay from seer s on -/
def tlP (of : Nat → Nat → Nat) (u : Nat → Nat) (s : Nat) : Nat := sm (fun t => if s ≤ t then pv of t (u t) else 0)
def prP (of : Nat → Nat → Nat) (u : Nat → Nat) (s : Nat) : Nat := sm (fun t => if t < s then pv of t (u t) else 0)
theorem sm_add (f g : Nat → Nat) : sm (fun s => f s + g s) = sm f + sm g := by unfold sm; simp only; omega
theorem sm_cong {f g : Nat → Nat} (h : ∀ s, s < 6 → f s = g s) : sm f = sm g := by
  unfold sm
  rw [h 0 (by omega), h 1 (by omega), h 2 (by omega), h 3 (by omega), h 4 (by omega), h 5 (by omega)]
theorem sm_one (a : Nat) {i : Nat} (hi : i < 6) : sm (fun t => if t = i then a else 0) = a := by
  unfold sm
  have h : i = 0 ∨ i = 1 ∨ i = 2 ∨ i = 3 ∨ i = 4 ∨ i = 5 := by omega
  rcases h with rfl | rfl | rfl | rfl | rfl | rfl <;> simp
theorem pay_split (of : Nat → Nat → Nat) (u : Nat → Nat) (s : Nat) : payM of u = prP of u s + tlP of u s := by
  unfold prP tlP payM
  rw [← sm_add]
  refine sm_cong (fun t _ => ?_)
  by_cases z : t < s
  · rw [if_pos z, if_neg (by omega), Nat.add_zero]
  · rw [if_neg z, if_pos (by omega), Nat.zero_add]
theorem tl_s (of : Nat → Nat → Nat) (u : Nat → Nat) {s : Nat} (hs : s < 6) : tlP of u s = pv of s (u s) + tlP of u (s + 1) := by
  have e := sm_one (pv of s (u s)) hs
  unfold tlP
  rw [← e, ← sm_add]
  refine sm_cong (fun t _ => ?_)
  by_cases z : t = s
  · subst z; rw [if_pos (by omega), if_pos rfl, if_neg (by omega), Nat.add_zero]
  · rw [if_neg z, Nat.zero_add]
    by_cases y : s ≤ t
    · rw [if_pos y, if_pos (by omega)]
    · rw [if_neg y, if_neg (by omega)]
/-- the seers ahead of s as they are, x for s, the others by v -/
def gl (u v : Nat → Nat) (s x : Nat) : Nat → Nat := fun t => if t < s then u t else if t = s then x else v t
section Glue
variable {n N : Nat} {of : Nat → Nat → Nat} {c : Nat → Bool} {u : Nat → Nat} {s L : Nat}
theorem gl_vld (hu : vld n N of c u) {x : Nat} {v : Nat → Nat} {c' : Nat → Bool} (hc : ∀ p, c' p = true → cR c u s p = true) (hv : vld n N of c' v) (hL : ∀ t, v t ≠ 0 → s < t) (hx : x ≠ 0 → s < n ∧ x ≤ N ∧ cR c u s (x - 1) = true ∧ 0 < of s (x - 1) ∧ c' (x - 1) = false) : vld n N of c (gl u v s x) := by
  have cv : ∀ t, v t ≠ 0 → c (v t - 1) = true ∧ (∀ r, r < s → u r ≠ v t) := fun t q => by
    have a := hc _ (hv.1 t q).2.2.1
    rw [cR_iff] at a
    refine ⟨a.1, fun r hr z => a.2 r hr (by omega)⟩
  have cx : x ≠ 0 → c (x - 1) = true ∧ (∀ r, r < s → u r ≠ x) := fun q => by
    have a := (hx q).2.2.1
    rw [cR_iff] at a
    exact ⟨a.1, fun r hr z => a.2 r hr (by omega)⟩
  have xv : x ≠ 0 → ∀ t, v t ≠ 0 → v t ≠ x := fun q t y z => by
    have a := (hx q).2.2.2.2
    have b := (hv.1 t y).2.2.1
    rw [z, a] at b
    cases b
  refine ⟨fun t q => ?_, fun t r q e => ?_⟩
  · unfold gl at *
    by_cases z : t < s
    · rw [if_pos z] at *; exact hu.1 t q
    · rw [if_neg z] at *
      by_cases y : t = s
      · rw [if_pos y] at *
        subst y
        exact ⟨(hx q).1, (hx q).2.1, (cx q).1, (hx q).2.2.2.1⟩
      · rw [if_neg y] at *
        exact ⟨(hv.1 t q).1, (hv.1 t q).2.1, (cv t q).1, (hv.1 t q).2.2.2⟩
  · have part : ∀ t, gl u v s x t ≠ 0 → (t < s ∧ gl u v s x t = u t) ∨ (t = s ∧ gl u v s x t = x ∧ x ≠ 0) ∨ (s < t ∧ gl u v s x t = v t ∧ v t ≠ 0) := fun t q => by
      unfold gl at *
      by_cases z : t < s
      · rw [if_pos z] at *; exact .inl ⟨z, rfl⟩
      · rw [if_neg z] at *
        by_cases y : t = s
        · rw [if_pos y] at *; exact .inr (.inl ⟨y, rfl, q⟩)
        · rw [if_neg y] at *; exact .inr (.inr ⟨hL t q, rfl, q⟩)
    have q2 : gl u v s x r ≠ 0 := by rw [← e]; exact q
    rcases part t q with ⟨a1, a2⟩ | ⟨a1, a2, a3⟩ | ⟨a1, a2, a3⟩ <;> rcases part r q2 with ⟨b1, b2⟩ | ⟨b1, b2, b3⟩ | ⟨b1, b2, b3⟩
    · rw [a2, b2] at e; rw [a2] at q; exact hu.2 t r q e
    · rw [a2, b2] at e; exact absurd e ((cx b3).2 t a1)
    · rw [a2, b2] at e; exact absurd e ((cv r b3).2 t a1)
    · rw [a2, b2] at e; exact absurd e.symm ((cx a3).2 r b1)
    · omega
    · rw [a2, b2] at e; exact absurd e.symm (xv a3 r b3)
    · rw [a2, b2] at e; exact absurd e.symm ((cv t a3).2 r b1)
    · rw [a2, b2] at e; exact absurd e (xv b3 t a3)
    · rw [a2, b2] at e; exact hv.2 t r a3 e
theorem gl_pay {x : Nat} {v : Nat → Nat} (hs : s < 6) (hL : ∀ t, v t ≠ 0 → s < t) : payM of (gl u v s x) = prP of u s + pv of s x + payM of v := by
  unfold payM prP
  rw [← sm_one (pv of s x) hs, ← sm_add, ← sm_add]
  refine sm_cong (fun t _ => ?_)
  unfold gl
  have z0 : t ≤ s → pv of t (v t) = 0 := fun q => by
    have : v t = 0 := Classical.byContradiction (fun y => by have := hL t y; omega)
    rw [this]; rfl
  by_cases z : t < s
  · rw [if_pos z, if_pos z, if_neg (by omega), z0 (by omega)]; rfl
  · rw [if_neg z, if_neg z]
    by_cases y : t = s
    · subst y; rw [if_pos rfl, if_pos rfl, z0 (by omega), Nat.zero_add, Nat.add_zero]
    · rw [if_neg y, if_neg y]; omega
/-- the seers behind s of a way -/
def rs (u : Nat → Nat) (s : Nat) : Nat → Nat := fun t => if s < t then u t else 0
theorem rs_vld (hu : vld n N of c u) : (u s ≠ 0 → vld n N of (cX (cR c u s) (u s - 1)) (rs u s)) ∧ vld n N of (cR c u s) (rs u s) := by
  have key : ∀ t, rs u s t ≠ 0 → s < t ∧ rs u s t = u t ∧ u t ≠ 0 := fun t q => by
    unfold rs at *
    by_cases z : s < t
    · rw [if_pos z] at *; exact ⟨z, rfl, q⟩
    · rw [if_neg z] at q; exact absurd rfl q
  have cr : ∀ t, rs u s t ≠ 0 → cR c u s (rs u s t - 1) = true := fun t q => by
    obtain ⟨a, b, d⟩ := key t q
    rw [b, cR_iff]
    refine ⟨(hu.1 t d).2.2.1, fun r hr z => ?_⟩
    have := hu.2 r t (by omega) (by omega)
    omega
  have inj : ∀ t r, rs u s t ≠ 0 → rs u s t = rs u s r → t = r := fun t r q e => by
    have q2 : rs u s r ≠ 0 := by rw [← e]; exact q
    obtain ⟨-, b, d⟩ := key t q
    obtain ⟨-, b2, -⟩ := key r q2
    rw [b, b2] at e
    exact hu.2 t r d e
  refine ⟨fun us => ⟨fun t q => ?_, inj⟩, ⟨fun t q => ?_, inj⟩⟩
  · obtain ⟨a, b, d⟩ := key t q
    refine ⟨(hu.1 t d).1, by rw [b]; exact (hu.1 t d).2.1, ?_, by rw [b]; exact (hu.1 t d).2.2.2⟩
    unfold cX
    rw [cr t q, Bool.true_and, Bool.not_eq_true', decide_eq_false_iff_not, b]
    intro z
    have := hu.2 t s d (by omega)
    omega
  · obtain ⟨a, b, d⟩ := key t q
    exact ⟨(hu.1 t d).1, by rw [b]; exact (hu.1 t d).2.1, cr t q, by rw [b]; exact (hu.1 t d).2.2.2⟩
theorem rs_pay : payM of (rs u s) = tlP of u (s + 1) := by
  unfold payM tlP
  refine sm_cong (fun t _ => ?_)
  unfold rs
  by_cases z : s < t
  · rw [if_pos z, if_pos (by omega)]
  · rw [if_neg z, if_neg (by omega)]; rfl
theorem gl_A (hN : N ≤ 30) (ho : opt n N of c 0 u) (hs : s < 6) {x : Nat} {v : Nat → Nat} (hL : ∀ t, v t ≠ 0 → s < t) (hg : vld n N of c (gl u v s x)) : pv of s x + payM of v ≤ tlP of u s ∧ (pv of s x + payM of v = tlP of u s → u s ≤ x) := by
  have ob := ho.2.2 _ hg (fun t _ => Nat.zero_testBit t)
  have a := v_pay (vld_30 hN ho.1) (vld_30 hN hg) ob
  have gp := gl_pay (of := of) (u := u) (x := x) hs hL
  have sp := pay_split of u s
  refine ⟨by omega, fun e => ?_⟩
  apply Classical.byContradiction
  intro q
  have gs : gl u v s x s = x := by unfold gl; rw [if_neg (by omega), if_pos rfl]
  have wl := way_lex (u := u) (v := gl u v s x) (vld_30 hN hg) hs (fun t ht => by unfold gl; rw [if_pos ht]) (by rw [gs]; omega)
  have pe : payM of (gl u v s x) = payM of u := by omega
  unfold vM at ob
  rw [pe] at ob
  omega
theorem gr_none (hn : n ≤ 6) (hN : N ≤ 30) (ho : opt n N of c 0 u) (hs : s < n) (hL : ∀ t, L.testBit t = decide (s < t ∧ t < n)) : (pdA of (cR c u s) N L = tlP of u s ↔ u s = 0) := by
  have m := pd_mx hn (of := of) (c := cR c u s) N L (fun t q => by rw [hL t, decide_eq_true_eq] at q; exact q.2)
  obtain ⟨v, v1, v2, v3⟩ := m.1
  have vL : ∀ t, v t ≠ 0 → s < t := fun t q => by have := v2 t q; rw [hL t, decide_eq_true_eq] at this; exact this.1
  have gv := gl_vld (s := s) (x := 0) ho.1 (fun _ q => q) v1 vL (fun q => absurd rfl q)
  have A := gl_A hN ho (by omega) vL gv
  have p0 : pv of s 0 = 0 := rfl
  constructor
  · intro e
    have := A.2 (by omega)
    omega
  · intro e
    have r := m.2 (rs u s) (rs_vld ho.1).2 (fun t q => by
      rw [hL t, decide_eq_true_eq]
      unfold rs at q
      by_cases z : s < t
      · rw [if_pos z] at q; exact ⟨z, (ho.1.1 t q).1⟩
      · rw [if_neg z] at q; exact absurd rfl q)
    have rp := rs_pay (of := of) (u := u) (s := s)
    have ts := tl_s of u (s := s) (by omega)
    rw [e, p0] at ts
    omega
theorem gr_pane (hn : n ≤ 6) (hN : N ≤ 30) (ho : opt n N of c 0 u) (hs : s < n) (hL : ∀ t, L.testBit t = decide (s < t ∧ t < n)) (us : u s ≠ 0) : (∀ p, p < N → cR c u s p = true → pdA of (cX (cR c u s) p) N L + of s p = tlP of u s → u s ≤ p + 1) ∧ cR c u s (u s - 1) = true ∧ u s - 1 < N ∧ pdA of (cX (cR c u s) (u s - 1)) N L + of s (u s - 1) = tlP of u s := by
  have hm : ∀ p, mxP n N of (cX (cR c u s) p) L (pdA of (cX (cR c u s) p) N L) := fun p => pd_mx hn N L (fun t q => by rw [hL t, decide_eq_true_eq] at q; exact q.2)
  have sub : ∀ p r, cX (cR c u s) p r = true → cR c u s r = true := fun p r q => by unfold cX at q; rw [Bool.and_eq_true] at q; exact q.1
  have self : ∀ p, cX (cR c u s) p p = false := fun p => by unfold cX; simp
  have key : ∀ p, p < N → cR c u s p = true → 0 < of s p → of s p + pdA of (cX (cR c u s) p) N L ≤ tlP of u s ∧ (of s p + pdA of (cX (cR c u s) p) N L = tlP of u s → u s ≤ p + 1) := fun p hp hc hop => by
    obtain ⟨v, v1, v2, v3⟩ := (hm p).1
    have vL : ∀ t, v t ≠ 0 → s < t := fun t q => by have := v2 t q; rw [hL t, decide_eq_true_eq] at this; exact this.1
    have gv := gl_vld (s := s) (x := p + 1) ho.1 (sub p) v1 vL (fun _ => ⟨hs, by omega, hc, hop, self p⟩)
    have A := gl_A hN ho (by omega) vL gv
    have p1 : pv of s (p + 1) = of s p := rfl
    rw [p1, v3] at A
    exact A
  refine ⟨fun p hp hc e => ?_, ?_, ?_, ?_⟩
  · by_cases z : of s p = 0
    · obtain ⟨v, v1, v2, v3⟩ := (hm p).1
      have vL : ∀ t, v t ≠ 0 → s < t := fun t q => by have := v2 t q; rw [hL t, decide_eq_true_eq] at this; exact this.1
      have gv := gl_vld (s := s) (x := 0) ho.1 (sub p) v1 vL (fun q => absurd rfl q)
      have A := gl_A hN ho (by omega) vL gv
      have p0 : pv of s 0 = 0 := rfl
      have := A.2 (by omega)
      omega
    · exact (key p hp hc (by omega)).2 (by omega)
  · rw [cR_iff]
    refine ⟨(ho.1.1 s us).2.2.1, fun t ht z => ?_⟩
    have := ho.1.2 t s (by omega) (by omega)
    omega
  · have := (ho.1.1 s us).2.1; omega
  · have hc : cR c u s (u s - 1) = true := by
      rw [cR_iff]
      refine ⟨(ho.1.1 s us).2.2.1, fun t ht z => ?_⟩
      have := ho.1.2 t s (by omega) (by omega)
      omega
    have g := (ho.1.1 s us)
    have k := key (u s - 1) (by omega) hc g.2.2.2
    have r := (hm (u s - 1)).2 (rs u s) ((rs_vld ho.1).1 us) (fun t q => by
      rw [hL t, decide_eq_true_eq]
      unfold rs at q
      by_cases z : s < t
      · rw [if_pos z] at q; exact ⟨z, (ho.1.1 t q).1⟩
      · rw [if_neg z] at q; exact absurd rfl q)
    have rp := rs_pay (of := of) (u := u) (s := s)
    have ts := tl_s of u (s := s) (by omega)
    have pu : pv of s (u s) = of s (u s - 1) := if_neg us
    omega
end Glue
