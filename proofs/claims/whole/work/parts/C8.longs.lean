/-! Longs, and the class's market -/
def lI (z : Int) : Int64 := Int64.ofInt z
theorem lI_add (a b : Int) : lI a + lI b = lI (a + b) := (Int64.ofInt_add _ _).symm
theorem lI_sub (a b : Int) : lI a - lI b = lI (a - b) := (Int64.ofInt_sub _ _).symm
theorem lI_mul (a b : Int) : lI a * lI b = lI (a * b) := (Int64.ofInt_mul _ _).symm
def sml (z : Int) : Prop := -(2 ^ 62) ≤ z ∧ z < 2 ^ 62
theorem lI_toInt {z : Int} (h : sml z) : (lI z).toInt = z := by
  unfold lI
  obtain ⟨h1, h2⟩ := h
  rw [Int64.toInt_ofInt, Int.bmod_def, show ((Int64.size : Nat) : Int) = 18446744073709551616 from rfl]
  split <;> omega
theorem lI_le {a b : Int} (ha : sml a) (hb : sml b) : (lI a ≤ lI b) = (a ≤ b) := by
  apply propext
  rw [Int64.le_iff_toInt_le, lI_toInt ha, lI_toInt hb]
theorem lI_lt {a b : Int} (ha : sml a) (hb : sml b) : (lI a < lI b) = (a < b) := by
  apply propext
  rw [Int64.lt_iff_toInt_lt, lI_toInt ha, lI_toInt hb]
theorem lI_mx {x y : Int} (hx : sml x) (hy : sml y) : (if lI y < lI x then lI x else lI y) = lI (max x y) := by
  simp only [lI_lt hy hx]
  split
  · rw [show max x y = x by omega]
  · rw [show max x y = y by omega]
theorem lI_ne {a b : Int} (ha : sml a) (hb : sml b) (h : a ≠ b) : ¬ lI a = lI b := fun e => h (by rw [← lI_toInt ha, ← lI_toInt hb, e])
theorem lI_div {a b : Int} (ha : sml a) (hb : sml b) (h0 : 0 ≤ a) (h1 : 0 < b) : lI a / lI b = lI (a / b) := by
  have hs : sml (a / b) := by
    have q1 : 0 ≤ a / b := Int.ediv_nonneg h0 (by omega)
    have q2 : a / b ≤ a := Int.ediv_le_self _ h0
    unfold sml at *
    omega
  rw [← Int64.toInt_inj, lI_toInt hs, lg_ldiv_nonneg (by rw [lI_toInt ha]; exact h0) (by rw [lI_toInt hb]; exact h1), lI_toInt ha, lI_toInt hb]
theorem nI_j {k : Nat} (hk : k < 2 ^ 31) : (nI k).toInt64 = lI (k : Int) := by
  rw [← Int64.toInt_inj, lI_toInt ⟨by omega, by omega⟩, Int32.toInt_toInt64, nI_toInt hk]
theorem l_nI {k : Nat} (hk : k < 2 ^ 31) : (lI (k : Int)).toInt32 = nI k := by rw [← nI_j hk, lg_l2i_i2l]
theorem cmp0 {a : Int} (ha : sml a) : (0 ≤ lg_cmp (lI a) 0) = (0 ≤ a) := by
  apply propext
  rw [lg_cmp_ge, show (0 : Int64) = lI 0 from rfl, lI_le ⟨by omega, by omega⟩ ha]
/-- seers of a set -/
theorem st_bt : ∀ S, S < 64 → ∀ s, s < 6 → (nI S >>> (nI s &&& 31)) &&& 1 = (if S.testBit s = true then (1 : Int32) else 0) := by decide +kernel
theorem st_wo : ∀ S, S < 64 → ∀ s, s < 6 → S.testBit s = true → nI S &&& (shl1 s ^^^ -1) = nI (wo S s) ∧ wo S s < S := by decide +kernel
theorem st_n : ∀ n, n ≤ 6 → shl1 n - 1 = nI (2 ^ n - 1) ∧ shl1 n = nI (2 ^ n) := by decide +kernel
theorem st_and : ∀ S, S < 64 → ∀ X, X < 64 → (nI S &&& nI X = 0) = (S &&& X = 0) := by
  intro S hS X hX
  have : ∀ S, S < 64 → ∀ X, X < 64 → decide (nI S &&& nI X = 0) = decide (S &&& X = 0) := by decide +kernel
  exact propext (by have := this S hS X hX; rwa [decide_eq_decide] at this)
def oW (W : WD) : Nat → Nat → Nat := fun s p => (W (247 + (30 * s + p))).toNatClampNeg
theorem of_e {W : WD} (R : rng W) {s p : Nat} (hs : s < 6) (hp : p < 30) : W (247 + (30 * s + p)) = nI (oW W s p) ∧ oW W s p ≤ 99 := by
  have b := R.2.2.2 (30 * s + p) (by omega)
  obtain ⟨e1, e2⟩ := bd_nI b (by omega)
  refine ⟨e1, ?_⟩
  unfold oW
  have := b.2
  omega
/-- the table PLACES -/
def PLC (O : mO) : Prop := ∃ f, O 1 = some (aL 6 f) ∧ ∀ s, s < 6 → f s = lI (pl s : Int)
theorem PLC.at {O : mO} (P : PLC O) {s : Nat} (hs : s < 6) : m_alO O 1 (nI s) = some (lI (pl s : Int)) := by
  obtain ⟨f, e, q⟩ := P
  have h1 := nI_clamp (show s < 2 ^ 31 by omega)
  simp only [m_alO, e]
  rw [if_neg (by rw [h1]; intro z; rcases z with z | z; exact nI_pos (by omega) z; omega), h1, q s hs]
theorem pl_b : ∀ s, s < 6 → 1 ≤ pl s ∧ pl s ≤ 28629151 := by decide
def hBs (h : mH) (f : Nat → Int64) : mH := (h.1.set 64 (aL 64 f), h.2)
theorem gMk0 {h : mH} {s : Int32} (H : h.1[63]? = some (oMk s)) : m_gf h 63 3 0 = some (.ref 64) := by simp only [m_gf, H, oMk, ↓reduceIte]; rfl
theorem gMk1 {h : mH} {s : Int32} (H : h.1[63]? = some (oMk s)) : m_gf h 63 3 1 = some (.int s) := by simp only [m_gf, H, oMk, ↓reduceIte]; rfl
theorem pMk1 {h : mH} {s : Int32} (H : h.1[63]? = some (oMk s)) (x : Int32) : m_pf h 63 3 1 (.int x) = some (h.1.set 63 (oMk x), h.2) := by simp only [m_pf, H]; rfl
theorem iMk {h : mH} {s : Int32} (H : h.1[63]? = some (oMk s)) : m_isc h 63 3 = true := by simp only [m_isc, H, oMk]; rfl
