/-! Sales: which seer gets which pane; a way is a digit a seer (0: none, else the pane and 1) -/
def sm (f : Nat → Nat) : Nat := f 0 + f 1 + f 2 + f 3 + f 4 + f 5
def pl : Nat → Nat
  | 0 => 28629151
  | 1 => 923521
  | 2 => 29791
  | 3 => 961
  | 4 => 31
  | _ => 1
def pv (of : Nat → Nat → Nat) (s d : Nat) : Nat := if d = 0 then 0 else of s (d - 1)
def payM (of : Nat → Nat → Nat) (u : Nat → Nat) : Nat := sm (fun s => pv of s (u s))
def wayM (u : Nat → Nat) : Nat := sm (fun s => u s * pl s)
def vM (of : Nat → Nat → Nat) (u : Nat → Nat) : Int := 887503681 * (payM of u : Int) - (wayM u : Int)
/-- a way: seers below n, panes below k that are on sale, each pane once, something is paid for each -/
def vld (n k : Nat) (of : Nat → Nat → Nat) (c : Nat → Bool) (u : Nat → Nat) : Prop := (∀ s, u s ≠ 0 → s < n ∧ u s ≤ k ∧ c (u s - 1) = true ∧ 0 < of s (u s - 1)) ∧ ∀ s t, u s ≠ 0 → u s = u t → s = t
def ud (u : Nat → Nat) (i x : Nat) : Nat → Nat := fun s => if s = i then x else u s
theorem ud_s (u : Nat → Nat) (i x : Nat) : ud u i x i = x := if_pos rfl
theorem ud_n {u : Nat → Nat} {i x s : Nat} (h : s ≠ i) : ud u i x s = u s := if_neg h
theorem sm_le {f g : Nat → Nat} (h : ∀ s, s < 6 → f s ≤ g s) : sm f ≤ sm g := by
  unfold sm
  have := h 0 (by omega); have := h 1 (by omega); have := h 2 (by omega); have := h 3 (by omega); have := h 4 (by omega); have := h 5 (by omega)
  omega
theorem sm_ud (F : Nat → Nat → Nat) (u : Nat → Nat) {i : Nat} (hi : i < 6) (x : Nat) : sm (fun s => F s (ud u i x s)) + F i (u i) = sm (fun s => F s (u s)) + F i x := by
  have e : ∀ s, F s (ud u i x s) = if s = i then F i x else F s (u s) := fun s => by
    unfold ud
    split
    · rename_i q; rw [q]
    · rfl
  simp only [e]
  unfold sm
  have h : i = 0 ∨ i = 1 ∨ i = 2 ∨ i = 3 ∨ i = 4 ∨ i = 5 := by omega
  rcases h with rfl | rfl | rfl | rfl | rfl | rfl <;> simp <;> omega
theorem pay_ud (of : Nat → Nat → Nat) (u : Nat → Nat) {i : Nat} (hi : i < 6) (x : Nat) : payM of (ud u i x) + pv of i (u i) = payM of u + pv of i x := sm_ud (pv of) u hi x
theorem way_ud (u : Nat → Nat) {i : Nat} (hi : i < 6) (x : Nat) : wayM (ud u i x) + u i * pl i = wayM u + x * pl i := sm_ud (fun s d => d * pl s) u hi x
theorem way_lt {u : Nat → Nat} (h : ∀ s, u s ≤ 30) : wayM u < 887503681 := by
  unfold wayM sm
  have := h 0; have := h 1; have := h 2; have := h 3; have := h 4; have := h 5
  simp only [pl]
  omega
/-- a lesser digit at the first place where two ways differ -/
theorem way_lex {u v : Nat → Nat} (hv : ∀ s, v s ≤ 30) {i : Nat} (hi : i < 6) (e : ∀ s, s < i → v s = u s) (l : v i < u i) : wayM v < wayM u := by
  unfold wayM sm
  have := hv 0; have := hv 1; have := hv 2; have := hv 3; have := hv 4; have := hv 5
  simp only [pl]
  have h : i = 0 ∨ i = 1 ∨ i = 2 ∨ i = 3 ∨ i = 4 ∨ i = 5 := by omega
  rcases h with rfl | rfl | rfl | rfl | rfl | rfl
  · omega
  · have := e 0 (by omega); omega
  · have := e 0 (by omega); have := e 1 (by omega); omega
  · have := e 0 (by omega); have := e 1 (by omega); have := e 2 (by omega); omega
  · have := e 0 (by omega); have := e 1 (by omega); have := e 2 (by omega); have := e 3 (by omega); omega
  · have := e 0 (by omega); have := e 1 (by omega); have := e 2 (by omega); have := e 3 (by omega); have := e 4 (by omega); omega
theorem way_dig {u : Nat → Nat} (h : ∀ s, u s ≤ 30) {i : Nat} (hi : i < 6) : wayM u / pl i % 31 = u i := by
  unfold wayM sm
  have := h 0; have := h 1; have := h 2; have := h 3; have := h 4; have := h 5
  have hh : i = 0 ∨ i = 1 ∨ i = 2 ∨ i = 3 ∨ i = 4 ∨ i = 5 := by omega
  rcases hh with rfl | rfl | rfl | rfl | rfl | rfl <;> simp only [pl] <;> omega
theorem pay_of_v {of : Nat → Nat → Nat} {u : Nat → Nat} (h : ∀ s, u s ≤ 30) : (vM of u + 887503681 - 1) / 887503681 = (payM of u : Int) ∧ 887503681 * (payM of u : Int) - vM of u = (wayM u : Int) := by
  have := way_lt h
  unfold vM
  constructor <;> omega
/-- more pay is worth more -/
theorem v_pay {of : Nat → Nat → Nat} {u v : Nat → Nat} (hu : ∀ s, u s ≤ 30) (hv : ∀ s, v s ≤ 30) (h : vM of v ≤ vM of u) : payM of v ≤ payM of u := by
  have := way_lt hu
  have := way_lt hv
  unfold vM at h
  omega
theorem vld_30 {n k : Nat} {of : Nat → Nat → Nat} {c : Nat → Bool} {u : Nat → Nat} (hk : k ≤ 30) (h : vld n k of c u) (s : Nat) : u s ≤ 30 := by
  by_cases z : u s = 0
  · omega
  · have := (h.1 s z).2.1; omega
theorem vld_0 (n k : Nat) (of : Nat → Nat → Nat) (c : Nat → Bool) : vld n k of c (fun _ => 0) := ⟨fun s q => absurd rfl q, fun s t q => absurd rfl q⟩
theorem vld_up {n k : Nat} {of : Nat → Nat → Nat} {c : Nat → Bool} {u : Nat → Nat} (h : vld n k of c u) : vld n (k + 1) of c u := ⟨fun s q => by have := h.1 s q; exact ⟨this.1, by omega, this.2.2⟩, h.2⟩
theorem vld_add {n k s : Nat} {of : Nat → Nat → Nat} {c : Nat → Bool} {u : Nat → Nat} (h : vld n k of c u) (hs : s < n) (hc : c k = true) (ho : 0 < of s k) : vld n (k + 1) of c (ud u s (k + 1)) := by
  refine ⟨fun t q => ?_, fun t r q e => ?_⟩
  · by_cases z : t = s
    · subst z; rw [ud_s] at *; exact ⟨hs, by omega, hc, ho⟩
    · rw [ud_n z] at *; have := h.1 t q; exact ⟨this.1, by omega, this.2.2⟩
  · by_cases z : t = s
    · by_cases y : r = s
      · omega
      · rw [z, ud_s, ud_n y] at e
        have : u r ≠ 0 := by omega
        have := (h.1 r this).2.1
        omega
    · by_cases y : r = s
      · rw [y, ud_s, ud_n z] at e
        rw [ud_n z] at q
        have := (h.1 t q).2.1
        omega
      · rw [ud_n z, ud_n y] at e
        rw [ud_n z] at q
        exact h.2 t r q e
theorem vld_sub {n k s : Nat} {of : Nat → Nat → Nat} {c : Nat → Bool} {u : Nat → Nat} (h : vld n k of c u) : vld n k of c (ud u s 0) := by
  refine ⟨fun t q => ?_, fun t r q e => ?_⟩
  · by_cases z : t = s
    · subst z; rw [ud_s] at q; exact absurd rfl q
    · rw [ud_n z] at *; exact h.1 t q
  · by_cases z : t = s
    · subst z; rw [ud_s] at q; exact absurd rfl q
    · rw [ud_n z] at q e
      by_cases y : r = s
      · rw [y, ud_s] at e; exact absurd e q
      · rw [ud_n y] at e; exact h.2 t r q e
/-- either nobody has the last pane, or just one seer has it -/
theorem vld_last {n k : Nat} {of : Nat → Nat → Nat} {c : Nat → Bool} {u : Nat → Nat} (h : vld n (k + 1) of c u) : vld n k of c u ∨ ∃ s, s < n ∧ u s = k + 1 ∧ c k = true ∧ 0 < of s k ∧ vld n k of c (ud u s 0) := by
  by_cases q : ∃ s, u s = k + 1
  · obtain ⟨s, e⟩ := q
    have hs := h.1 s (by omega)
    rw [e, Nat.add_sub_cancel] at hs
    refine .inr ⟨s, hs.1, e, hs.2.2.1, hs.2.2.2, ?_, (vld_sub h).2⟩
    intro t z
    have g := (vld_sub (s := s) h).1 t z
    refine ⟨g.1, ?_, g.2.2⟩
    by_cases y : t = s
    · subst y; rw [ud_s] at z; exact absurd rfl z
    · rw [ud_n y] at *
      have : u t ≠ k + 1 := fun w => y (h.2 t s (by omega) (by omega))
      omega
  · refine .inl ⟨fun s z => ?_, h.2⟩
    have g := h.1 s z
    have : u s ≠ k + 1 := fun w => q ⟨s, w⟩
    exact ⟨g.1, by omega, g.2.2⟩
/-! The reference's table: the most for each set of seers -/
def wo (S s : Nat) : Nat := if S.testBit s = true then S ^^^ 2 ^ s else S
theorem wo_bt {S s : Nat} (t : Nat) : (wo S s).testBit t = (S.testBit t && !decide (t = s)) := by
  unfold wo
  by_cases h : S.testBit s = true
  · rw [if_pos h, Nat.testBit_xor, Nat.testBit_two_pow]
    by_cases z : t = s
    · subst z; simp [h]
    · have z' : ¬ s = t := fun y => z y.symm
      simp [z, z']
  · rw [if_neg h]
    by_cases z : t = s
    · subst z
      have : S.testBit t = false := by simpa using h
      simp [this]
    · simp [z]
/-- one pane more -/
def pdS (of : Nat → Nat → Nat) (k : Nat) (b : Nat → Nat) (S : Nat) : Nat := lp (fun s x => if S.testBit s = true then max x (b (wo S s) + of s k) else x) 6 (b S)
def pdT (of : Nat → Nat → Nat) (c : Nat → Bool) : Nat → (Nat → Nat) → (Nat → Nat) := fun k b => if c k = true then pdS of k b else b
def pdA (of : Nat → Nat → Nat) (c : Nat → Bool) (k : Nat) : Nat → Nat := lp (pdT of c) k (fun _ => 0)
def inS (S : Nat) (u : Nat → Nat) : Prop := ∀ s, u s ≠ 0 → S.testBit s = true
/-- the most of a table over ways -/
def mxP (n k : Nat) (of : Nat → Nat → Nat) (c : Nat → Bool) (S x : Nat) : Prop := (∃ u, vld n k of c u ∧ inS S u ∧ payM of u = x) ∧ ∀ u, vld n k of c u → inS S u → payM of u ≤ x
theorem lp_max {F : Nat → Nat → Nat} {b : Nat} (G : Nat → Option Nat) (hF : ∀ s x, F s x = (G s).elim x (fun y => max x y)) : ∀ n, b ≤ lp F n b ∧ (∀ s y, s < n → G s = some y → y ≤ lp F n b) ∧ (lp F n b = b ∨ ∃ s y, s < n ∧ G s = some y ∧ lp F n b = y)
  | 0 => ⟨Nat.le_refl _, fun s y h => by omega, .inl rfl⟩
  | n + 1 => by
    obtain ⟨a, c, e⟩ := lp_max (F := F) (b := b) G hF n
    rw [lp_s, hF]
    cases g : G n with
    | none =>
      refine ⟨a, fun s y hs q => ?_, ?_⟩
      · by_cases z : s = n
        · subst z; rw [g] at q; cases q
        · exact c s y (by omega) q
      · rcases e with e | ⟨s, y, hs, q, e⟩
        · exact .inl e
        · exact .inr ⟨s, y, by omega, q, e⟩
    | some v =>
      simp only [Option.elim_some]
      refine ⟨by omega, fun s y hs q => ?_, ?_⟩
      · by_cases z : s = n
        · subst z; rw [g] at q; cases q; omega
        · have := c s y (by omega) q; omega
      · rcases Nat.le_total (lp F n b) v with w | w
        · exact .inr ⟨n, v, by omega, g, by omega⟩
        · rw [Nat.max_eq_left w]
          rcases e with e | ⟨s, y, hs, q, e⟩
          · exact .inl e
          · exact .inr ⟨s, y, by omega, q, e⟩
theorem pd_mx {n : Nat} (hn : n ≤ 6) {of : Nat → Nat → Nat} {c : Nat → Bool} : ∀ k S, (∀ s, S.testBit s = true → s < n) → mxP n k of c S (pdA of c k S)
  | 0, S, hS => by
    refine ⟨⟨fun _ => 0, vld_0 _ _ _ _, fun s q => absurd rfl q, rfl⟩, fun u h _ => ?_⟩
    have z : ∀ s, u s = 0 := fun s => by
      apply Classical.byContradiction
      intro q
      have := (h.1 s q).2.1
      omega
    have : payM of u = 0 := by unfold payM sm pv; simp only [z, ↓reduceIte]
    rw [this]
    exact Nat.zero_le _
  | k + 1, S, hS => by
    have hw : ∀ s, ∀ t, (wo S s).testBit t = true → t < n := fun s t q => by
      rw [wo_bt, Bool.and_eq_true] at q; exact hS t q.1
    have ih := pd_mx hn (of := of) (c := c) k S hS
    have e : pdA of c (k + 1) = pdT of c k (pdA of c k) := rfl
    rw [e, pdT]
    by_cases hc : c k = true
    · rw [if_pos hc]
      obtain ⟨m1, m2, m3⟩ := lp_max (F := fun s x => if S.testBit s = true then max x (pdA of c k (wo S s) + of s k) else x) (b := pdA of c k S) (fun s => if S.testBit s = true then some (pdA of c k (wo S s) + of s k) else none) (fun s x => by by_cases q : S.testBit s = true <;> simp [q]) 6
      show mxP n (k + 1) of c S (pdS of k (pdA of c k) S)
      unfold pdS
      generalize lp (fun s x => if S.testBit s = true then max x (pdA of c k (wo S s) + of s k) else x) 6 (pdA of c k S) = X at *
      refine ⟨?_, fun u hu hi => ?_⟩
      · rcases m3 with z | ⟨s, y, hs, q, z⟩
        · obtain ⟨u, h1, h2, h3⟩ := ih.1
          exact ⟨u, vld_up h1, h2, by omega⟩
        · by_cases b : S.testBit s = true
          · rw [if_pos b] at q
            have q := Option.some.inj q
            obtain ⟨⟨u, h1, h2, h3⟩, -⟩ := pd_mx hn (of := of) (c := c) k (wo S s) (hw s)
            have us : u s = 0 := by
              apply Classical.byContradiction
              intro y
              have := h2 s y
              rw [wo_bt] at this
              simp at this
            have hin : ∀ t, u t ≠ 0 → S.testBit t = true := fun t y => by
              have := h2 t y
              rw [wo_bt, Bool.and_eq_true] at this
              exact this.1
            by_cases o : of s k = 0
            · exact ⟨u, vld_up h1, hin, by omega⟩
            · refine ⟨ud u s (k + 1), vld_add h1 (hS s b) hc (by omega), fun t y => ?_, ?_⟩
              · by_cases w : t = s
                · subst w; exact b
                · rw [ud_n w] at y; exact hin t y
              · have p := pay_ud of u hs (k + 1)
                have p0 : pv of s (u s) = 0 := by rw [us]; rfl
                have p1 : pv of s (k + 1) = of s k := rfl
                omega
          · rw [if_neg b] at q; cases q
      · rcases vld_last hu with z | ⟨s, hs, es, -, ho, z⟩
        · have := ih.2 u z hi; omega
        · have b : S.testBit s = true := hi s (by omega)
          have g := m2 s (pdA of c k (wo S s) + of s k) (by omega) (if_pos b)
          have l := (pd_mx hn (of := of) (c := c) k (wo S s) (hw s)).2 (ud u s 0) z (fun t y => by
            by_cases w : t = s
            · subst w; rw [ud_s] at y; exact absurd rfl y
            · rw [ud_n w] at y
              rw [wo_bt, hi t y]; simp [w])
          have p := pay_ud of u (show s < 6 by omega) 0
          have p0 : pv of s (u s) = of s k := by rw [es]; rfl
          have p1 : pv of s 0 = 0 := rfl
          omega
    · rw [if_neg hc]
      refine ⟨?_, fun u hu hi => ?_⟩
      · obtain ⟨u, h1, h2, h3⟩ := ih.1
        exact ⟨u, vld_up h1, h2, h3⟩
      · rcases vld_last hu with z | ⟨s, -, -, q, -, -⟩
        · exact ih.2 u z hi
        · exact absurd q hc
