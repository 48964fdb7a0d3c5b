/-! Sets within a set, one behind another -/
def vl : Nat → Nat → Nat → Nat
  | 0, _, _ => 0
  | n + 1, c, s => if c % 2 = 1 then 2 * vl n (c / 2) (s / 2) + s % 2 else vl n (c / 2) (s / 2)
/-- s is within c -/
def wi (s c : Nat) : Prop := s &&& c = s
theorem bit_and (a b : Nat) : a &&& b = 2 * (a / 2 &&& b / 2) + (if a % 2 = 1 ∧ b % 2 = 1 then 1 else 0) := by
  apply Nat.eq_of_testBit_eq
  intro i
  have e : ∀ x y : Nat, x < 2 → (2 * y + x).testBit i = if i < 1 then x.testBit i else y.testBit (i - 1) := fun x y hx => by
    have := Nat.testBit_two_pow_mul_add y (i := 1) (b := x) (by omega) i
    simpa using this
  have da : a = 2 * (a / 2) + a % 2 := by omega
  have db : b = 2 * (b / 2) + b % 2 := by omega
  rw [Nat.testBit_and, e _ _ (by split <;> omega)]
  conv => lhs; rw [da, db]
  rw [e _ _ (by omega), e _ _ (by omega)]
  by_cases h : i < 1
  · have : i = 0 := by omega
    subst this
    simp only [h, ↓reduceIte]
    have ha : a % 2 = 0 ∨ a % 2 = 1 := by omega
    have hb : b % 2 = 0 ∨ b % 2 = 1 := by omega
    rcases ha with ha | ha <;> rcases hb with hb | hb <;> simp [ha, hb]
  · simp only [h, ↓reduceIte, Nat.testBit_and]
theorem wi_h {s c : Nat} (h : wi s c) : wi (s / 2) (c / 2) ∧ (s % 2 = 1 → c % 2 = 1) := by
  unfold wi at *
  rw [bit_and] at h
  constructor
  · split at h <;> omega
  · intro q
    split at h
    · rename_i z; exact z.2
    · omega
theorem wi_of {s c : Nat} (h : wi (s / 2) (c / 2)) (h2 : s % 2 = 1 → c % 2 = 1) : wi s c := by
  unfold wi at *
  rw [bit_and, h]
  split
  · omega
  · rename_i q
    have : s % 2 = 0 := by
      rcases Nat.mod_two_eq_zero_or_one s with z | z
      · exact z
      · exact absurd ⟨z, h2 z⟩ q
    omega
theorem wi_and (s c : Nat) : wi (s &&& c) c := by
  unfold wi
  rw [Nat.and_assoc, Nat.and_self]
theorem vl_0 : ∀ n c, vl n c 0 = 0
  | 0, _ => rfl
  | n + 1, c => by
    rw [vl, Nat.zero_div, vl_0 n]
    split <;> simp
/-- how many sets there are -/
def pw : Nat → Nat → Nat
  | 0, _ => 1
  | n + 1, c => if c % 2 = 1 then 2 * pw n (c / 2) else pw n (c / 2)
theorem vl_lt : ∀ n c s, vl n c s < pw n c
  | 0, _, _ => by simp [vl, pw]
  | n + 1, c, s => by
    have := vl_lt n (c / 2) (s / 2)
    rw [vl, pw]
    split <;> omega
theorem vl_mono : ∀ n c s t, wi s c → wi t c → c < 2 ^ n → s < t → vl n c s < vl n c t
  | 0, c, s, t, hs, ht, hc, h => by
    have : c = 0 := by simpa using hc
    subst this
    unfold wi at *
    rw [Nat.and_zero] at *
    omega
  | n + 1, c, s, t, hs, ht, hc, h => by
    have h1 := wi_h hs
    have h2 := wi_h ht
    have hc2 : c / 2 < 2 ^ n := by rw [Nat.pow_succ] at hc; omega
    rw [vl, vl]
    by_cases q : s / 2 < t / 2
    · have := vl_mono n (c / 2) (s / 2) (t / 2) h1.1 h2.1 hc2 q
      split <;> omega
    · have e : s / 2 = t / 2 := by omega
      rw [e]
      have : s % 2 = 0 ∧ t % 2 = 1 := by omega
      rw [if_pos (h2.2 this.2), if_pos (h2.2 this.2)]
      omega
theorem vl_inj {n c s t : Nat} (hs : wi s c) (ht : wi t c) (hc : c < 2 ^ n) (h : vl n c s = vl n c t) : s = t := by
  rcases Nat.lt_trichotomy s t with q | q | q
  · have := vl_mono n c s t hs ht hc q; omega
  · exact q
  · have := vl_mono n c t s ht hs hc q; omega
theorem vl_dec : ∀ n c s, wi s c → c < 2 ^ n → 0 < s → vl n c ((s - 1) &&& c) + 1 = vl n c s
  | 0, c, s, hs, hc, h => by
    have : c = 0 := by simpa using hc
    subst this
    unfold wi at hs
    rw [Nat.and_zero] at hs
    omega
  | n + 1, c, s, hs, hc, h => by
    have h1 := wi_h hs
    have hc2 : c / 2 < 2 ^ n := by rw [Nat.pow_succ] at hc; omega
    rcases Nat.mod_two_eq_zero_or_one s with z | z
    · have p : 0 < s / 2 := by omega
      have ih := vl_dec n (c / 2) (s / 2) h1.1 hc2 p
      have e : (s - 1) &&& c = 2 * ((s / 2 - 1) &&& (c / 2)) + (if c % 2 = 1 then 1 else 0) := by
        rw [bit_and, show (s - 1) / 2 = s / 2 - 1 by omega, show (s - 1) % 2 = 1 by omega]
        simp only [true_and]
      rw [e, vl, vl, z]
      rcases Nat.mod_two_eq_zero_or_one c with w | w
      · simp only [w, Nat.zero_ne_one, ↓reduceIte, Nat.add_zero]
        rw [show 2 * ((s / 2 - 1) &&& (c / 2)) / 2 = (s / 2 - 1) &&& (c / 2) by omega]
        exact ih
      · simp only [w, ↓reduceIte]
        rw [show (2 * ((s / 2 - 1) &&& (c / 2)) + 1) / 2 = (s / 2 - 1) &&& (c / 2) by omega, show (2 * ((s / 2 - 1) &&& (c / 2)) + 1) % 2 = 1 by omega]
        omega
    · have w := h1.2 z
      have e : (s - 1) &&& c = 2 * (s / 2) := by
        rw [bit_and, show (s - 1) / 2 = s / 2 by omega, show (s - 1) % 2 = 0 by omega, h1.1]
        simp
      rw [e, vl, vl, if_pos w, if_pos w, show 2 * (s / 2) / 2 = s / 2 by omega, show 2 * (s / 2) % 2 = 0 by omega, z]
theorem and_up : ∀ n c s, wi s c → c < 2 ^ n → (s + (2 ^ n - 1 - c)) &&& c = s
  | 0, c, s, hs, hc => by
    have : c = 0 := by simpa using hc
    subst this
    unfold wi at hs
    rw [Nat.and_zero] at *
    exact hs
  | n + 1, c, s, hs, hc => by
    have h1 := wi_h hs
    have hp : 2 ^ (n + 1) = 2 * 2 ^ n := by rw [Nat.pow_succ, Nat.mul_comm]
    have hc2 : c / 2 < 2 ^ n := by omega
    have ih := and_up n (c / 2) (s / 2) h1.1 hc2
    have hs2 : s % 2 = 1 → c % 2 = 1 := h1.2
    rw [bit_and]
    have e1 : (s + (2 ^ (n + 1) - 1 - c)) / 2 = s / 2 + (2 ^ n - 1 - c / 2) := by omega
    rw [e1, ih]
    by_cases z : (s + (2 ^ (n + 1) - 1 - c)) % 2 = 1 ∧ c % 2 = 1
    · rw [if_pos z]; omega
    · rw [if_neg z]
      omega
theorem vl_inc : ∀ n c s, wi s c → c < 2 ^ n → s < c → vl n c ((s + 2 ^ n - c) &&& c) = vl n c s + 1
  | 0, c, s, hs, hc, h => by
    have : c = 0 := by simpa using hc
    omega
  | n + 1, c, s, hs, hc, h => by
    have h1 := wi_h hs
    have hp : 2 ^ (n + 1) = 2 * 2 ^ n := by rw [Nat.pow_succ, Nat.mul_comm]
    have hc2 : c / 2 < 2 ^ n := by omega
    by_cases q : s % 2 = c % 2
    · have ih := vl_inc n (c / 2) (s / 2) h1.1 hc2 (by omega)
      have e : (s + 2 ^ (n + 1) - c) &&& c = 2 * ((s / 2 + 2 ^ n - c / 2) &&& (c / 2)) := by
        rw [bit_and, show (s + 2 ^ (n + 1) - c) / 2 = s / 2 + 2 ^ n - c / 2 by omega, if_neg (by omega)]
        omega
      rw [e, vl, vl]
      rw [show 2 * ((s / 2 + 2 ^ n - c / 2) &&& (c / 2)) / 2 = (s / 2 + 2 ^ n - c / 2) &&& (c / 2) by omega, show 2 * ((s / 2 + 2 ^ n - c / 2) &&& (c / 2)) % 2 = 0 by omega, ih]
      split <;> omega
    · have w : s % 2 = 0 ∧ c % 2 = 1 := by
        have := h1.2
        omega
      have e : (s + 2 ^ (n + 1) - c) &&& c = 2 * (s / 2) + 1 := by
        rw [bit_and, show (s + 2 ^ (n + 1) - c) / 2 = s / 2 + (2 ^ n - 1 - c / 2) by omega, and_up n (c / 2) (s / 2) h1.1 hc2, if_pos (by omega)]
      rw [e, vl, vl, if_pos w.2, if_pos w.2, show (2 * (s / 2) + 1) / 2 = s / 2 by omega, show (2 * (s / 2) + 1) % 2 = 1 by omega, w.1]
/-- as many sets as two to how many bits -/
theorem pw_ct : ∀ n c, pw n c = 2 ^ fb_ct (fun i => c.testBit i) n
  | 0, c => rfl
  | n + 1, c => by
    rw [pw, pw_ct n, show n + 1 = 1 + n by omega, fb_ct_split]
    have e : fb_ct (fun k => c.testBit (1 + k)) n = fb_ct (fun i => (c / 2).testBit i) n := fb_ct_cong (fun k _ => by
      rw [Nat.add_comm, Nat.testBit_succ])
    rw [e]
    have f : fb_ct (fun i => c.testBit i) 1 = c % 2 := by
      rw [fb_ct_succ]
      simp only [fb_ct, Nat.testBit_zero, Nat.zero_add, decide_eq_true_eq]
      split <;> omega
    rw [f]
    split
    · rename_i q; rw [q, Nat.pow_add]
    · rename_i q; rw [show c % 2 = 0 by omega, Nat.zero_add]
theorem vl_all : ∀ n c, c < 2 ^ n → vl n c c + 1 = pw n c
  | 0, c, h => rfl
  | n + 1, c, h => by
    have hc2 : c / 2 < 2 ^ n := by rw [Nat.pow_succ] at h; omega
    have := vl_all n (c / 2) hc2
    rw [vl, pw]
    split <;> omega
/-- without the lowest bit -/
theorem low_bit : ∀ n x i, x < 2 ^ n → (x &&& (x - 1)).testBit i = (x.testBit i && decide (0 < fb_ct (fun k => x.testBit k) i))
  | 0, x, i, h => by
    have : x = 0 := by simpa using h
    subst this
    simp
  | n + 1, x, i, h => by
    have hx2 : x / 2 < 2 ^ n := by rw [Nat.pow_succ] at h; omega
    rcases Nat.eq_zero_or_pos x with z | z
    · subst z; simp
    · cases i with
      | zero =>
        have : (x &&& (x - 1)) % 2 = 0 := by
          rw [bit_and]
          split <;> omega
        rw [Nat.testBit_zero, this]
        simp [fb_ct]
      | succ i =>
        rw [Nat.testBit_succ, Nat.testBit_succ]
        have ec : fb_ct (fun k => x.testBit k) (i + 1) = x % 2 + fb_ct (fun k => (x / 2).testBit k) i := by
          rw [show i + 1 = 1 + i by omega, fb_ct_split]
          congr 1
          · rw [fb_ct_succ]
            simp only [fb_ct, Nat.testBit_zero, Nat.zero_add, decide_eq_true_eq]
            split <;> omega
          · exact fb_ct_cong (fun k _ => by rw [Nat.add_comm, Nat.testBit_succ])
        rw [ec]
        rcases Nat.mod_two_eq_zero_or_one x with w | w
        · have e : (x &&& (x - 1)) / 2 = (x / 2) &&& (x / 2 - 1) := by
            rw [bit_and, show (x - 1) / 2 = x / 2 - 1 by omega]
            split <;> omega
          rw [e, low_bit n (x / 2) i hx2, w, Nat.zero_add]
        · have e : (x &&& (x - 1)) / 2 = x / 2 := by
            rw [bit_and, show (x - 1) / 2 = x / 2 by omega, Nat.and_self, if_neg (by omega)]
            omega
          rw [e, w, decide_eq_true (by omega), Bool.and_true]
theorem bt_uN (x : Int32) (i : Nat) : bt x i = (uN x).testBit i := rfl
theorem bt_low (x : Int32) {i : Nat} (hi : i < 32) : bt (x &&& (x - 1)) i = (bt x i && decide (0 < fb_ct (bt x) i)) := by
  by_cases z : x = 0
  · subst z
    rw [b_and, b_0]; rfl
  · have hp : 1 ≤ uN x := by
      rcases Nat.eq_zero_or_pos (uN x) with q | q
      · exact absurd (Int32.toBitVec_inj.mp (BitVec.eq_of_toNat_eq (show x.toBitVec.toNat = (0 : Int32).toBitVec.toNat from q))) z
      · exact q
    have e : uN (x &&& (x - 1)) = uN x &&& (uN x - 1) := by
      rw [uN_and, uN_sub (by exact hp)]
      rfl
    rw [bt_uN, e, low_bit 32 (uN x) i (uN_lt x)]
    rfl
