/-! Sales: the class's table; seer by seer -/
def exS (S : Nat) (u : Nat → Nat) : Prop := ∀ s, u s ≠ 0 ↔ S.testBit s = true
theorem v_pos {n k : Nat} (hk : k ≤ 30) {of : Nat → Nat → Nat} {c : Nat → Bool} {u : Nat → Nat} (h : vld n k of c u) : 0 ≤ vM of u := by
  have t : ∀ s, s < 6 → u s * pl s ≤ 887503681 * pv of s (u s) := fun s hs => by
    by_cases z : u s = 0
    · rw [z, Nat.zero_mul]; exact Nat.zero_le _
    · have a := vld_30 hk h s
      have b := (h.1 s z).2.2.2
      have p1 : pv of s (u s) = of s (u s - 1) := if_neg z
      have pm : pl s ≤ 28629151 := by
        have hh : s = 0 ∨ s = 1 ∨ s = 2 ∨ s = 3 ∨ s = 4 ∨ s = 5 := by omega
        rcases hh with rfl | rfl | rfl | rfl | rfl | rfl <;> decide
      have m : u s * pl s ≤ 30 * 28629151 := Nat.mul_le_mul a pm
      have q : 887503681 * 1 ≤ 887503681 * pv of s (u s) := Nat.mul_le_mul_left _ (by omega)
      omega
  have key : wayM u ≤ 887503681 * payM of u := by
    unfold payM wayM sm
    have := t 0 (by omega); have := t 1 (by omega); have := t 2 (by omega); have := t 3 (by omega); have := t 4 (by omega); have := t 5 (by omega)
    simp only
    omega
  unfold vM
  omega
theorem v_zero (of : Nat → Nat → Nat) : vM of (fun _ => 0) = 0 := by
  have a : payM of (fun _ => 0) = 0 := by unfold payM sm pv; simp
  have b : wayM (fun _ => 0) = 0 := by unfold wayM sm; simp
  unfold vM
  rw [a, b]
  rfl
def bcS (n : Nat) (of : Nat → Nat → Nat) (k : Nat) (b : Nat → Int) (S : Nat) : Int := lp (fun s x => if of s k = 0 ∨ S.testBit s = false then x else if b (wo S s) < 0 then x else max x (b (wo S s) + 887503681 * (of s k : Int) - ((k + 1) * pl s : Nat))) n (b S)
def bcT (n : Nat) (of : Nat → Nat → Nat) (c : Nat → Bool) : Nat → (Nat → Int) → (Nat → Int) := fun k b => if c k = true then bcS n of k b else b
def bcA (n : Nat) (of : Nat → Nat → Nat) (c : Nat → Bool) (k : Nat) : Nat → Int := lp (bcT n of c) k (fun S => if S = 0 then 0 else -1)
def mxV (n k : Nat) (of : Nat → Nat → Nat) (c : Nat → Bool) (S : Nat) (x : Int) : Prop := (x = -1 ∧ ∀ u, vld n k of c u → exS S u → False) ∨ ((∃ u, vld n k of c u ∧ exS S u ∧ vM of u = x) ∧ ∀ u, vld n k of c u → exS S u → vM of u ≤ x)
theorem lp_maxI {F : Nat → Int → Int} {b : Int} (G : Nat → Option Int) (hF : ∀ s x, F s x = (G s).elim x (fun y => max x y)) : ∀ n, b ≤ lp F n b ∧ (∀ s y, s < n → G s = some y → y ≤ lp F n b) ∧ (lp F n b = b ∨ ∃ s y, s < n ∧ G s = some y ∧ lp F n b = y)
  | 0 => ⟨Int.le_refl _, fun s y h => by omega, .inl rfl⟩
  | n + 1 => by
    obtain ⟨a, c, e⟩ := lp_maxI (F := F) (b := b) G hF n
    rw [lp_s, hF]
    cases g : G n with
    | none =>
      refine ⟨a, fun s y hs q => ?_, ?_⟩
      · by_cases z : s = n
        · subst z; rw [g] at q; cases q
        · exact c s y (by omega) q
      · rcases e with e | ⟨s, y, hs, q, e⟩
        · exact .inl e
        · exact .inr ⟨s, y, by omega, q, e⟩
    | some v =>
      simp only [Option.elim_some]
      refine ⟨by omega, fun s y hs q => ?_, ?_⟩
      · by_cases z : s = n
        · subst z; rw [g] at q; cases q; omega
        · have := c s y (by omega) q; omega
      · rcases Int.le_total (lp F n b) v with w | w
        · exact .inr ⟨n, v, by omega, g, by omega⟩
        · have : max (lp F n b) v = lp F n b := by omega
          rw [this]
          rcases e with e | ⟨s, y, hs, q, e⟩
          · exact .inl e
          · exact .inr ⟨s, y, by omega, q, e⟩
theorem v_ud {of : Nat → Nat → Nat} {u : Nat → Nat} {s k : Nat} (hs : s < 6) (us : u s = 0) : vM of (ud u s (k + 1)) = vM of u + 887503681 * (of s k : Int) - ((k + 1) * pl s : Nat) := by
  have p := pay_ud of u hs (k + 1)
  have w := way_ud u hs (k + 1)
  have p0 : pv of s (u s) = 0 := by rw [us]; rfl
  have p1 : pv of s (k + 1) = of s k := rfl
  rw [us, Nat.zero_mul] at w
  unfold vM
  omega
theorem bc_mx {n : Nat} (hn : n ≤ 6) {of : Nat → Nat → Nat} {c : Nat → Bool} : ∀ k, k ≤ 30 → ∀ S, (∀ s, S.testBit s = true → s < n) → mxV n k of c S (bcA n of c k S)
  | 0, _, S, hS => by
    have z : ∀ u, vld n 0 of c u → ∀ s, u s = 0 := fun u h s => by
      apply Classical.byContradiction
      intro q
      have := (h.1 s q).2.1
      omega
    show mxV n 0 of c S (if S = 0 then 0 else -1)
    by_cases h : S = 0
    · subst h
      rw [if_pos rfl]
      refine .inr ⟨⟨fun _ => 0, vld_0 _ _ _ _, fun s => by simp, rfl⟩, fun u hu _ => ?_⟩
      have : u = fun _ => 0 := funext (z u hu)
      rw [this]; exact Int.le_refl _
    · rw [if_neg h]
      refine .inl ⟨rfl, fun u hu hx => h ?_⟩
      apply Nat.eq_of_testBit_eq
      intro i
      rw [Nat.zero_testBit]
      cases e : S.testBit i
      · rfl
      · exact absurd (z u hu i) ((hx i).mpr e)
  | k + 1, hk, S, hS => by
    have hw : ∀ s, ∀ t, (wo S s).testBit t = true → t < n := fun s t q => by
      rw [wo_bt, Bool.and_eq_true] at q; exact hS t q.1
    have ih := bc_mx hn (of := of) (c := c) k (by omega) S hS
    have e : bcA n of c (k + 1) = bcT n of c k (bcA n of c k) := rfl
    rw [e, bcT]
    by_cases hc : c k = true
    · rw [if_pos hc]
      obtain ⟨m1, m2, m3⟩ := lp_maxI (F := fun s x => if of s k = 0 ∨ S.testBit s = false then x else if bcA n of c k (wo S s) < 0 then x else max x (bcA n of c k (wo S s) + 887503681 * (of s k : Int) - ((k + 1) * pl s : Nat))) (b := bcA n of c k S) (fun s => if of s k = 0 ∨ S.testBit s = false then none else if bcA n of c k (wo S s) < 0 then none else some (bcA n of c k (wo S s) + 887503681 * (of s k : Int) - ((k + 1) * pl s : Nat))) (fun s x => by
        by_cases q : of s k = 0 ∨ S.testBit s = false
        · simp only [q, ↓reduceIte, Option.elim_none]
        · by_cases r : bcA n of c k (wo S s) < 0
          · simp only [q, r, ↓reduceIte, Option.elim_none]
          · simp only [q, r, ↓reduceIte, Option.elim_some]) n
      show mxV n (k + 1) of c S (bcS n of k (bcA n of c k) S)
      unfold bcS
      generalize lp (fun s x => if of s k = 0 ∨ S.testBit s = false then x else if bcA n of c k (wo S s) < 0 then x else max x (bcA n of c k (wo S s) + 887503681 * (of s k : Int) - ((k + 1) * pl s : Nat))) n (bcA n of c k S) = X at *
      -- each way is at most X
      have up : ∀ u, vld n (k + 1) of c u → exS S u → vM of u ≤ X := fun u hu hx => by
        rcases vld_last hu with z | ⟨s, hs, es, -, ho, z⟩
        · rcases ih with q | q
          · exact absurd hx (q.2 u z)
          · exact Int.le_trans (q.2 u z hx) m1
        · have b : S.testBit s = true := (hx s).mp (by omega)
          have hx0 : exS (wo S s) (ud u s 0) := fun t => by
            rw [wo_bt]
            by_cases w : t = s
            · subst w; rw [ud_s]; simp
            · rw [ud_n w, hx t]; simp [w]
          have v0 := v_pos (show k ≤ 30 by omega) z
          have vu := v_ud (of := of) (u := ud u s 0) (s := s) (k := k) (by omega) (ud_s _ _ _)
          have uu : ud (ud u s 0) s (k + 1) = u := by
            funext t
            by_cases w : t = s
            · subst w; rw [ud_s, es]
            · rw [ud_n w, ud_n w]
          rw [uu] at vu
          rcases bc_mx hn (of := of) (c := c) k (by omega) (wo S s) (hw s) with q | q
          · exact absurd hx0 (q.2 _ z)
          · have l := q.2 _ z hx0
            have nn : ¬ bcA n of c k (wo S s) < 0 := Int.not_lt.mpr (Int.le_trans v0 l)
            have bb : ¬ (of s k = 0 ∨ S.testBit s = false) := by
              rintro (y | y)
              · omega
              · rw [b] at y; cases y
            have g := m2 s _ hs (by rw [if_neg bb, if_neg nn])
            rw [vu]
            exact Int.le_trans (Int.sub_le_sub_right (Int.add_le_add_right l _) _) g
      rcases m3 with z | ⟨s, y, hs, q, z⟩
      · rcases ih with w | w
        · by_cases ex : ∃ u, vld n (k + 1) of c u ∧ exS S u
          · obtain ⟨u, h1, h2⟩ := ex
            have a := Int.le_trans (v_pos hk h1) (up u h1 h2)
            rw [z, w.1] at a
            exact absurd a (by decide)
          · exact .inl ⟨z.trans w.1, fun u h1 h2 => ex ⟨u, h1, h2⟩⟩
        · obtain ⟨⟨u, h1, h2, h3⟩, -⟩ := w
          exact .inr ⟨⟨u, vld_up h1, h2, h3.trans z.symm⟩, up⟩
      · by_cases b : of s k = 0 ∨ S.testBit s = false
        · rw [if_pos b] at q; cases q
        · rw [if_neg b] at q
          by_cases r : bcA n of c k (wo S s) < 0
          · rw [if_pos r] at q; cases q
          · rw [if_neg r] at q
            have q := Option.some.inj q
            rcases bc_mx hn (of := of) (c := c) k (by omega) (wo S s) (hw s) with w | w
            · omega
            · obtain ⟨⟨u, h1, h2, h3⟩, -⟩ := w
              have us : u s = 0 := by
                apply Classical.byContradiction
                intro y
                have := (h2 s).mp y
                rw [wo_bt] at this
                simp at this
              have bs : S.testBit s = true := by
                cases y : S.testBit s
                · exact absurd (.inr y) b
                · rfl
              refine .inr ⟨⟨ud u s (k + 1), vld_add h1 hs hc (by have : ¬ of s k = 0 := fun y => b (.inl y); omega), fun t => ?_, ?_⟩, up⟩
              · by_cases w : t = s
                · subst w; rw [ud_s, bs]; simp
                · rw [ud_n w, h2 t, wo_bt]; simp [w]
              · rw [v_ud (of := of) (k := k) (show s < 6 by omega) us, h3, q]
                exact z.symm
    · rw [if_neg hc]
      have back : ∀ u, vld n (k + 1) of c u → vld n k of c u := fun u hu => by
        rcases vld_last hu with z | ⟨s, -, -, q, -, -⟩
        · exact z
        · exact absurd q hc
      rcases ih with w | w
      · exact .inl ⟨w.1, fun u h1 h2 => w.2 u (back u h1) h2⟩
      · obtain ⟨⟨u, h1, h2, h3⟩, w2⟩ := w
        exact .inr ⟨⟨u, vld_up h1, h2, h3⟩, fun u h1 h2 => w2 u (back u h1) h2⟩
/-- the best of all sets that have none of X -/
def bwS (n : Nat) (b : Nat → Int) (X : Nat) : Int := lp (fun o x => if o &&& X = 0 then max x (b o) else x) (2 ^ n) 0
def opt (n k : Nat) (of : Nat → Nat → Nat) (c : Nat → Bool) (X : Nat) (u : Nat → Nat) : Prop := vld n k of c u ∧ (∀ s, u s ≠ 0 → X.testBit s = false) ∧ ∀ v, vld n k of c v → (∀ s, v s ≠ 0 → X.testBit s = false) → vM of v ≤ vM of u
theorem and_0 {o X : Nat} : o &&& X = 0 ↔ ∀ s, o.testBit s = true → X.testBit s = false := by
  constructor
  · intro h s q
    have := congrArg (fun z => z.testBit s) h
    simp only [Nat.testBit_and, q, Nat.zero_testBit, Bool.true_and] at this
    exact this
  · intro h
    apply Nat.eq_of_testBit_eq
    intro i
    rw [Nat.testBit_and, Nat.zero_testBit]
    cases e : o.testBit i
    · rfl
    · rw [h i e]; rfl
/-- the set of seers of a way -/
def dm (n : Nat) (u : Nat → Nat) : Nat := lp (fun s x => if u s ≠ 0 then x ||| 2 ^ s else x) n 0
theorem dm_bt (u : Nat → Nat) (t : Nat) : ∀ n, (dm n u).testBit t = (decide (t < n) && decide (u t ≠ 0))
  | 0 => by simp [dm, lp_0]
  | n + 1 => by
    have ih := dm_bt u t n
    unfold dm at *
    rw [lp_s]
    by_cases z : u n ≠ 0
    · rw [if_pos z, Nat.testBit_or, ih, Nat.testBit_two_pow]
      by_cases w : t = n
      · subst w; simp [z]
      · have w' : ¬ n = t := fun y => w y.symm
        have : decide (t < n + 1) = decide (t < n) := by rw [decide_eq_decide]; omega
        rw [this]; simp [w']
    · rw [if_neg z, ih]
      by_cases w : t = n
      · subst w; simp [z]
      · have : decide (t < n + 1) = decide (t < n) := by rw [decide_eq_decide]; omega
        rw [this]
theorem bw_opt {n : Nat} (hn : n ≤ 6) {of : Nat → Nat → Nat} {c : Nat → Bool} {k : Nat} (hk : k ≤ 30) (X : Nat) : ∃ u, opt n k of c X u ∧ vM of u = bwS n (bcA n of c k) X := by
  have hlt : ∀ o, o < 2 ^ n → ∀ s, o.testBit s = true → s < n := fun o ho s q => by
    apply Classical.byContradiction
    intro z
    rw [Nat.testBit_lt_two_pow (Nat.lt_of_lt_of_le ho (Nat.pow_le_pow_right (by omega) (by omega)))] at q
    cases q
  obtain ⟨m1, m2, m3⟩ := lp_maxI (F := fun o x => if o &&& X = 0 then max x (bcA n of c k o) else x) (b := 0) (fun o => if o &&& X = 0 then some (bcA n of c k o) else none) (fun o x => by by_cases q : o &&& X = 0 <;> simp only [q, ↓reduceIte, Option.elim_some, Option.elim_none]) (2 ^ n)
  have e : bwS n (bcA n of c k) X = lp (fun o x => if o &&& X = 0 then max x (bcA n of c k o) else x) (2 ^ n) 0 := rfl
  rw [← e] at m1 m2 m3
  generalize bwS n (bcA n of c k) X = Y at *
  have up : ∀ v, vld n k of c v → (∀ s, v s ≠ 0 → X.testBit s = false) → vM of v ≤ Y := fun v hv hx => by
    have dl : dm n v < 2 ^ n := by
      apply Nat.lt_pow_two_of_testBit
      intro i hi
      rw [dm_bt, decide_eq_false (by omega), Bool.false_and]
    have ex : exS (dm n v) v := fun s => by
      rw [dm_bt, Bool.and_eq_true, decide_eq_true_eq, decide_eq_true_eq]
      exact ⟨fun q => ⟨(hv.1 s q).1, q⟩, fun q => q.2⟩
    have a0 : dm n v &&& X = 0 := and_0.mpr (fun s q => hx s ((ex s).mpr q))
    have g := m2 (dm n v) _ dl (if_pos a0)
    rcases bc_mx hn (of := of) (c := c) k hk (dm n v) (hlt _ dl) with q | q
    · exact absurd ex (q.2 v hv)
    · exact Int.le_trans (q.2 v hv ex) g
  rcases m3 with z | ⟨o, y, ho, q, z⟩
  · refine ⟨fun _ => 0, ⟨vld_0 _ _ _ _, fun s q => absurd rfl q, fun v h1 h2 => ?_⟩, ?_⟩
    · rw [v_zero, ← z]; exact up v h1 h2
    · rw [v_zero, z]
  · by_cases b : o &&& X = 0
    · rw [if_pos b] at q
      have q := Option.some.inj q
      rcases bc_mx hn (of := of) (c := c) k hk o (hlt o ho) with w | w
      · omega
      · obtain ⟨⟨u, h1, h2, h3⟩, -⟩ := w
        have he : vM of u = Y := h3.trans (q.trans z.symm)
        refine ⟨u, ⟨h1, fun s y => and_0.mp b s ((h2 s).mp y), fun v g1 g2 => ?_⟩, he⟩
        rw [he]; exact up v g1 g2
    · rw [if_neg b] at q; cases q
/-- an optimum's pay is the reference's most -/
theorem opt_pay {n : Nat} (hn : n ≤ 6) {of : Nat → Nat → Nat} {c : Nat → Bool} {k X S : Nat} (hk : k ≤ 30) {u : Nat → Nat} (h : opt n k of c X u) (hS : ∀ s, S.testBit s = (decide (s < n) && !X.testBit s)) : pdA of c k S = payM of u := by
  have m := pd_mx hn (of := of) (c := c) k S (fun s q => by rw [hS s, Bool.and_eq_true, decide_eq_true_eq] at q; exact q.1)
  have ui : inS S u := fun s q => by rw [hS s, decide_eq_true (h.1.1 s q).1, h.2.1 s q]; rfl
  have a := m.2 u h.1 ui
  obtain ⟨v, v1, v2, v3⟩ := m.1
  have b := v_pay (vld_30 hk h.1) (vld_30 hk v1) (h.2.2 v v1 (fun s q => by
    have := v2 s q
    rw [hS s, Bool.and_eq_true, Bool.not_eq_true'] at this
    exact this.2))
  omega
