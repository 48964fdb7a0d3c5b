/-! Sets of panes as bits -/
def bs (n : Nat) (c : Nat → Bool) : Int32 := lp (fun p s => if c p = true then s ||| shl1 p else s) n 0
theorem bt_bs {n : Nat} (hn : n ≤ 32) (c : Nat → Bool) {i : Nat} (hi : i < 32) : bt (bs n c) i = (decide (i < n) && c i) := by
  induction n with
  | zero => rw [bs, lp_0, b_0]; simp
  | succ n ih =>
    have ih := ih (by omega)
    rw [bs, lp_s]
    rw [bs] at ih
    by_cases hc : c n = true
    · rw [if_pos hc, b_or, ih, bt_shl1 (by omega) hi]
      by_cases h1 : i = n
      · subst h1; simp [hc]
      · simp only [h1, decide_false, Bool.or_false]
        congr 1
        simp only [decide_eq_decide]; omega
    · rw [if_neg hc, ih]
      by_cases h1 : i = n
      · subst h1; simp [hc]
      · congr 1
        simp only [decide_eq_decide]; omega
theorem bs_congr {n : Nat} {c e : Nat → Bool} (h : ∀ i, i < n → c i = e i) : bs n c = bs n e := lp_congr (fun i s hi => by rw [h i hi]) 0
theorem or_0 (x : Int32) : x ||| 0 = x := by apply b_ext; intro i hi; rw [b_or, b_0, Bool.or_false]
theorem bs_m (n : Nat) (c : Nat → Bool) : lp (fun p s => s ||| (if c p = true then shl1 p else 0)) n 0 = bs n c := lp_congr (fun i s hi => by split <;> first | rfl | exact or_0 s) 0
theorem bt_not (x : Int32) {i : Nat} (hi : i < 32) : bt (x ^^^ (-1)) i = !bt x i := by rw [b_xor, b_m1 i hi]; simp
theorem allk : ∀ n, n < 31 → ∀ i, i < 32 → bt (shl1 n - 1) i = decide (i < n) := by decide +kernel
theorem bt_all {w g i : Nat} (h : w * g < 31) (hi : i < 32) : bt (allI w g) i = decide (i < w * g) := allk _ h i hi
def edk (w g i : Nat) : Bool := decide (1 ≤ w → bt (lEd w g) i = decide (i < w * g ∧ i % w = 0) ∧ bt (rEd w g) i = decide (i < w * g ∧ i % w + 1 = w))
theorem edk_t : ∀ (w : Fin 7) (g : Fin 6) (i : Fin 32), edk w g i = true := by decide +kernel
theorem bt_ed {w g i : Nat} (hw : w < 7) (hg : g < 6) (h1 : 1 ≤ w) (hi : i < 32) : bt (lEd w g) i = decide (i < w * g ∧ i % w = 0) ∧ bt (rEd w g) i = decide (i < w * g ∧ i % w + 1 = w) := of_decide_eq_true (edk_t ⟨w, hw⟩ ⟨g, hg⟩ ⟨i, hi⟩) h1
/-- no bit from n on -/
def sub (n : Nat) (s : Int32) : Prop := ∀ i, i < 32 → n ≤ i → bt s i = false
theorem sub_bs {n k : Nat} (hn : n ≤ k) (hk : k ≤ 32) (c : Nat → Bool) : sub k (bs n c) := fun i hi h => by rw [bt_bs (by omega) c hi, decide_eq_false (by omega), Bool.false_and]
theorem sub_or {n : Nat} {s t : Int32} (a : sub n s) (b : sub n t) : sub n (s ||| t) := fun i hi h => by rw [b_or, a i hi h, b i hi h]; rfl
theorem sub_and {n : Nat} {s t : Int32} (a : sub n s) : sub n (s &&& t) := fun i hi h => by rw [b_and, a i hi h]; rfl
theorem sub_and' {n : Nat} {s t : Int32} (a : sub n t) : sub n (s &&& t) := fun i hi h => by rw [b_and, a i hi h, Bool.and_false]
theorem sub_all {w g : Nat} (h : w * g < 31) : sub (w * g) (allI w g) := fun i hi q => by rw [bt_all h hi, decide_eq_false (by omega)]
theorem sub_0 (n : Nat) : sub n 0 := fun i _ _ => b_0 i
theorem sub_shl {p n : Nat} (hp : p < n) (h : n ≤ 32) : sub n (shl1 p) := fun i hi q => by rw [bt_shl1 (by omega) hi, decide_eq_false (by omega)]
/-- beside one of a set -/
def obt (s : Int32) : Option Nat → Bool
  | some q => bt s q
  | none => false
def nb (w g : Nat) (s : Int32) (i : Nat) : Bool := [0, 1, 2, 3].any fun k => obt s (bes w g i k)
theorem obt_if (s : Int32) (c : Prop) [Decidable c] (q : Nat) : obt s (if c then some q else none) = (decide c && bt s q) := by by_cases h : c <;> simp [h, obt]
theorem obt_ifn (s : Int32) (c : Prop) [Decidable c] (q : Nat) : obt s (if c then none else some q) = (!decide c && bt s q) := by by_cases h : c <;> simp [h, obt]
theorem nb_e (w g : Nat) (s : Int32) (i : Nat) : nb w g s i = ((decide (w ≤ i) && bt s (i - w)) || (decide (i % w + 1 < w) && bt s (i + 1)) || (decide (i + w < w * g) && bt s (i + w)) || (!decide (i % w = 0) && bt s (i - 1))) := by
  unfold nb
  simp only [List.any_cons, List.any_nil, Bool.or_false]
  show (obt s (if w ≤ i then some (i - w) else none) || (obt s (if i % w + 1 < w then some (i + 1) else none) || (obt s (if i + w < w * g then some (i + w) else none) || obt s (if i % w = 0 then none else some (i - 1))))) = _
  rw [obt_if, obt_if, obt_if, obt_ifn, Bool.or_assoc, Bool.or_assoc]
theorem nb_iff {w g : Nat} {s : Int32} {i : Nat} : nb w g s i = true ↔ ∃ k q, k < 4 ∧ bes w g i k = some q ∧ bt s q = true := by
  unfold nb
  rw [List.any_eq_true]
  constructor
  · rintro ⟨k, hk, h⟩
    cases e : bes w g i k with
    | none => rw [e] at h; cases h
    | some q =>
      rw [e] at h
      simp only [List.mem_cons, List.not_mem_nil, or_false] at hk
      exact ⟨k, q, by omega, e, h⟩
  · rintro ⟨k, q, hk, e, h⟩
    refine ⟨k, ?_, by rw [e]; exact h⟩
    simp only [List.mem_cons, List.not_mem_nil, or_false]
    omega
/-- beside goes both ways -/
def opp (k : Nat) : Nat := if k = 0 then 2 else if k = 1 then 3 else if k = 2 then 0 else 1
def besY (w g p k : Nat) : Bool := decide (1 ≤ w → p < w * g → ∀ q, bes w g p k = some q → bes w g q (opp k) = some p)
def besYf (w g p k : Nat) : Bool := match bes w g p k with
  | none => true
  | some q => decide (1 ≤ w → p < w * g → bes w g q (opp k) = some p)
theorem besY_t : ∀ (w : Fin 7) (g : Fin 6) (p : Fin 30) (k : Fin 4), besYf w g p k = true := by decide +kernel
theorem bes_opp {w g p k q : Nat} (hw : w < 7) (hg : g < 6) (hp : p < 30) (hk : k < 4) (h1 : 1 ≤ w) (h2 : p < w * g) (h : bes w g p k = some q) : bes w g q (opp k) = some p := by
  have t := besY_t ⟨w, hw⟩ ⟨g, hg⟩ ⟨p, hp⟩ ⟨k, hk⟩
  unfold besYf at t
  simp only [h] at t
  exact of_decide_eq_true t h1 h2
theorem opp_lt {k : Nat} (h : k < 4) : opp k < 4 := by unfold opp; split <;> (try split) <;> (try split) <;> omega
def mdk (w g i : Nat) : Bool := decide (1 ≤ w → i < w * g → ((i + 1) % w = 0 ↔ ¬ i % w + 1 < w) ∧ (1 ≤ i → ((i - 1) % w + 1 = w ↔ i % w = 0)) ∧ (i % w + 1 < w → i + 1 < w * g))
theorem mdk_t : ∀ (w : Fin 7) (g : Fin 6) (i : Fin 30), mdk w g i = true := by decide +kernel
theorem bt_ab {w g : Nat} {s : Int32} (hw : w < 7) (hg : g < 6) (h1 : 1 ≤ w) (hN : w * g ≤ 30) (hs : sub (w * g) s) {i : Nat} (hi : i < 32) : bt (abS w g s) i = (decide (i < w * g) && nb w g s i) := by
  unfold abS
  rw [b_and, bt_all (by omega) hi]
  by_cases hin : i < w * g
  · rw [decide_eq_true hin, Bool.and_true, Bool.true_and, nb_e]
    obtain ⟨m1, m2, m3⟩ := of_decide_eq_true (mdk_t ⟨w, hw⟩ ⟨g, hg⟩ ⟨i, by omega⟩) h1 hin
    simp only at m1 m2 m3
    have s1 : bt ((s &&& (rEd w g ^^^ (-1))) <<< ((1 : Int32) &&& 31)) i = (decide (1 ≤ i) && bt (s &&& (rEd w g ^^^ (-1))) (i - 1)) := b_shl 1 (by omega) _ hi
    have s2 : bt ((s &&& (lEd w g ^^^ (-1))) >>> ((1 : Int32) &&& 31)) i = (if 1 + i < 32 then bt (s &&& (lEd w g ^^^ (-1))) (1 + i) else bt (s &&& (lEd w g ^^^ (-1))) 31) := b_sshr 1 (by omega) _ hi
    rw [b_or, b_or, b_or, b_sshr w (by omega) s hi, s1, b_shl w (by omega) s hi, s2]
    have q1 : (if w + i < 32 then bt s (w + i) else bt s 31) = (decide (i + w < w * g) && bt s (i + w)) := by
      rw [Nat.add_comm w i]
      by_cases a : i + w < w * g
      · rw [if_pos (by omega), decide_eq_true a, Bool.true_and]
      · rw [decide_eq_false a, Bool.false_and]
        split
        · exact hs _ (by omega) (by omega)
        · exact hs _ (by omega) (by omega)
    have q2 : (decide (1 ≤ i) && bt (s &&& (rEd w g ^^^ (-1))) (i - 1)) = (!decide (i % w = 0) && bt s (i - 1)) := by
      rw [b_and, bt_not _ (by omega), (bt_ed hw hg h1 (show i - 1 < 32 by omega)).2]
      by_cases a : 1 ≤ i
      · have m2 := m2 a
        rw [decide_eq_true a, Bool.true_and]
        by_cases b : i % w = 0
        · simp [b, m2.mpr b, show i - 1 < w * g by omega]
        · have : ¬ ((i - 1) % w + 1 = w) := fun q => b (m2.mp q)
          simp [b, this]
      · have : i = 0 := by omega
        subst this
        simp
    have q3 : (if 1 + i < 32 then bt (s &&& (lEd w g ^^^ (-1))) (1 + i) else bt (s &&& (lEd w g ^^^ (-1))) 31) = (decide (i % w + 1 < w) && bt s (i + 1)) := by
      rw [Nat.add_comm 1 i, if_pos (by omega), b_and, bt_not _ (by omega), (bt_ed hw hg h1 (show i + 1 < 32 by omega)).1]
      by_cases a : i % w + 1 < w
      · have : ¬ (i + 1) % w = 0 := fun q => m1.mp q a
        simp [a, this]
      · have b := m1.mpr a
        by_cases c : i + 1 < w * g
        · simp [a, b, c]
        · rw [hs (i + 1) (by omega) (by omega)]; simp
    rw [q1, q2, q3]
    generalize (decide (w ≤ i) && bt s (i - w)) = A
    generalize (decide (i + w < w * g) && bt s (i + w)) = B
    generalize (!decide (i % w = 0) && bt s (i - 1)) = C
    generalize (decide (i % w + 1 < w) && bt s (i + 1)) = D
    cases A <;> cases B <;> cases C <;> cases D <;> rfl
  · rw [decide_eq_false hin, Bool.and_false, Bool.false_and]
theorem sub_ab {w g : Nat} {s : Int32} (hw : w < 7) (hg : g < 6) (h1 : 1 ≤ w) (hN : w * g ≤ 30) (hs : sub (w * g) s) : sub (w * g) (abS w g s) := fun i hi q => by
  rw [bt_ab hw hg h1 hN hs hi, decide_eq_false (by omega), Bool.false_and]
/-- a set and all beside it -/
def arS (w g : Nat) (s : Int32) : Int32 := s ||| abS w g s
theorem bt_ar {w g : Nat} {s : Int32} (hw : w < 7) (hg : g < 6) (h1 : 1 ≤ w) (hN : w * g ≤ 30) (hs : sub (w * g) s) {i : Nat} (hi : i < 32) : bt (arS w g s) i = (bt s i || (decide (i < w * g) && nb w g s i)) := by
  unfold arS; rw [b_or, bt_ab hw hg h1 hN hs hi]
theorem sub_ar {w g : Nat} {s : Int32} (hw : w < 7) (hg : g < 6) (h1 : 1 ≤ w) (hN : w * g ≤ 30) (hs : sub (w * g) s) : sub (w * g) (arS w g s) := sub_or hs (sub_ab hw hg h1 hN hs)
/-- the least set: by one bit -/
theorem bit_0 {s : Int32} : s = 0 ↔ ∀ i, i < 32 → bt s i = false := ⟨fun h i _ => by rw [h, b_0], fun h => b_ext (fun i hi => by rw [h i hi, b_0])⟩
