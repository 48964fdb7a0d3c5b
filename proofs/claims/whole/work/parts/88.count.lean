/-! How many bits: Integer.bitCount -/
def sru (x k : Int32) : Int32 := (x.toUInt32 >>> (k.toUInt32 &&& Int32.toUInt32 31)).toInt32
def bc1 (x : Int32) : Int32 := x - (sru x 1 &&& 1431655765)
def bc2 (x : Int32) : Int32 := (x &&& 858993459) + (sru x 2 &&& 858993459)
def bc3 (x : Int32) : Int32 := (x + sru x 4) &&& 252645135
def bc4 (x : Int32) : Int32 := x + sru x 8
def bc5 (x : Int32) : Int32 := x + sru x 16
def bc (x : Int32) : Int32 := bc5 (bc4 (bc3 (bc2 (bc1 x)))) &&& 63
theorem bitCount_ev (O : mO) (d : Nat) (h : mH) (x : Int32) : ev O (d) 254 0 [.int x] [] h = some (.inl (some (.int (bc x))), h) := by
  simp only [e_254_0, e_254_1, e_254_2, e_254_3, e_254_4, e_254_7, e_254_8, e_254_9, e_254_10, e_254_11, e_254_14, e_254_15, e_254_16, e_254_17, e_254_18, e_254_21, e_254_22, e_254_23, e_254_24, e_254_25, e_254_26, e_254_27, e_254_28, e_254_29, e_254_32, e_254_33, e_254_34, e_254_35, e_254_36, e_254_38, e_254_39, e_254_40, e_254_41, e_254_42, e_254_43, e_254_45, e_254_46, e_254_47, e_254_48, e_254_49, e_254_51, e_254_52]
  rfl
def uN (x : Int32) : Nat := x.toBitVec.toNat
theorem uN_lt (x : Int32) : uN x < 4294967296 := x.toBitVec.isLt
theorem uN_and (x y : Int32) : uN (x &&& y) = uN x &&& uN y := by unfold uN; rw [Int32.toBitVec_and, BitVec.toNat_and]
theorem uN_add (x y : Int32) : uN (x + y) = (uN x + uN y) % 4294967296 := by unfold uN; rw [Int32.toBitVec_add, BitVec.toNat_add]
theorem uN_sub {x y : Int32} (h : uN y ≤ uN x) : uN (x - y) = uN x - uN y := by unfold uN at *; rw [Int32.toBitVec_sub, BitVec.toNat_sub_of_le h]
theorem uN_sru (k : Nat) (hk : k < 32) (x : Int32) : uN (sru x (nI k)) = uN x / 2 ^ k := by
  show (x.toUInt32 >>> ((nI k).toUInt32 &&& Int32.toUInt32 31)).toBitVec.toNat = _
  rw [UInt32.toBitVec_shiftRight]
  show (x.toUInt32.toBitVec >>> (((nI k).toUInt32 &&& Int32.toUInt32 31).toBitVec % 32).toNat).toNat = _
  rw [s_u k hk, BitVec.toNat_ushiftRight, Nat.shiftRight_eq_div_pow]
  rfl
theorem dg_and (r q s k : Nat) (hr : r < 16) (hs : s < 16) : (r + 16 * q) &&& (s + 16 * k) = (r &&& s) + 16 * (q &&& k) := by
  have h1 : r &&& s < 2 ^ 4 := Nat.lt_of_le_of_lt Nat.and_le_left (by omega)
  apply Nat.eq_of_testBit_eq
  intro i
  have e : ∀ a b : Nat, a < 2 ^ 4 → (a + 16 * b).testBit i = if i < 4 then a.testBit i else b.testBit (i - 4) := fun a b ha => by
    rw [Nat.add_comm]; exact Nat.testBit_two_pow_mul_add b ha i
  rw [Nat.testBit_and, e r q (by omega), e s k (by omega), e _ _ h1]
  split <;> rw [Nat.testBit_and]
def m5 : Nat → Nat
  | 0 => 0
  | k + 1 => 5 + 16 * m5 k
def m3 : Nat → Nat
  | 0 => 0
  | k + 1 => 3 + 16 * m3 k
def t1 : Nat → Nat → Nat
  | 0, _ => 0
  | k + 1, n => (n % 16 - (n % 16 / 2 &&& 5)) + 16 * t1 k (n / 16)
def t2 : Nat → Nat → Nat
  | 0, _ => 0
  | k + 1, n => ((n % 16 &&& 3) + (n % 16 / 4 &&& 3)) + 16 * t2 k (n / 16)
def p4 (r : Nat) : Nat := ((r - (r / 2 &&& 5)) &&& 3) + ((r - (r / 2 &&& 5)) / 4 &&& 3)
def tp : Nat → Nat → Nat
  | 0, _ => 0
  | k + 1, n => p4 (n % 16) + 16 * tp k (n / 16)
theorem st1 : ∀ k n, n < 16 ^ k → (n / 2 &&& m5 k) ≤ n ∧ n - (n / 2 &&& m5 k) = t1 k n
  | 0, n, h => by
    have : n = 0 := by simpa using h
    subst this
    exact ⟨by simp, by simp [t1]⟩
  | k + 1, n, h => by
    have hq : n / 16 < 16 ^ k := by rw [Nat.pow_succ] at h; omega
    obtain ⟨ia, ib⟩ := st1 k (n / 16) hq
    have e : n / 2 = (n / 16 % 2 * 8 + n % 16 / 2) + 16 * (n / 16 / 2) := by omega
    have f1 : ∀ b, b < 2 → ∀ r, r < 16 → (b * 8 + r / 2 &&& 5) = (r / 2 &&& 5) := by decide
    have f2 : ∀ r, r < 16 → (r / 2 &&& 5) ≤ r := by decide
    have a := f1 (n / 16 % 2) (by omega) (n % 16) (by omega)
    have b := f2 (n % 16) (by omega)
    rw [m5, e, dg_and _ _ _ _ (by omega) (by omega), a]
    rw [t1, ← ib]
    omega
theorem st2 : ∀ k n, n < 16 ^ k → (n &&& m3 k) + (n / 4 &&& m3 k) = t2 k n
  | 0, n, h => by
    have : n = 0 := by simpa using h
    subst this
    simp [t2]
  | k + 1, n, h => by
    have hq : n / 16 < 16 ^ k := by rw [Nat.pow_succ] at h; omega
    have ib := st2 k (n / 16) hq
    have e : n / 4 = (n / 16 % 4 * 4 + n % 16 / 4) + 16 * (n / 16 / 4) := by omega
    have e0 : n &&& (3 + 16 * m3 k) = (n % 16 &&& 3) + 16 * (n / 16 &&& m3 k) := by
      have := dg_and (n % 16) (n / 16) 3 (m3 k) (by omega) (by omega)
      rwa [Nat.mod_add_div] at this
    have f1 : ∀ b, b < 4 → ∀ r, r < 16 → (b * 4 + r / 4 &&& 3) = (r / 4 &&& 3) := by decide
    have a := f1 (n / 16 % 4) (by omega) (n % 16) (by omega)
    rw [m3, e0, e, dg_and _ _ _ _ (by omega) (by omega), a, t2, ← ib]
    omega
theorem t1_lt : ∀ k n, t1 k n < 16 ^ k
  | 0, n => by simp [t1]
  | k + 1, n => by
    have := t1_lt k (n / 16)
    rw [t1, Nat.pow_succ]
    omega
theorem t21 : ∀ k n, t2 k (t1 k n) = tp k n
  | 0, n => rfl
  | k + 1, n => by
    rw [t1, t2, tp, ← t21 k]
    have h : n % 16 - (n % 16 / 2 &&& 5) < 16 := by omega
    have e1 : (n % 16 - (n % 16 / 2 &&& 5) + 16 * t1 k (n / 16)) % 16 = n % 16 - (n % 16 / 2 &&& 5) := by omega
    have e2 : (n % 16 - (n % 16 / 2 &&& 5) + 16 * t1 k (n / 16)) / 16 = t1 k (n / 16) := by omega
    rw [e1, e2]
    rfl
theorem p4_le : ∀ r, r < 16 → p4 r ≤ 4 := by decide
theorem and_15 (x : Nat) (h : x < 16) : x &&& 15 = x := (by decide : ∀ x, x < 16 → x &&& 15 = x) x h
theorem cm (a b c d e f g h : Nat) (ha : a < 16) (hb : b < 16) (hc : c < 16) (hd : d < 16) (he : e < 16) (hf : f < 16) (hg : g < 16) (hh : h < 16) : (a + 16 * (b + 16 * (c + 16 * (d + 16 * (e + 16 * (f + 16 * (g + 16 * h))))))) &&& 252645135 = a + 256 * c + 65536 * e + 16777216 * g := by
  have m : 252645135 = 15 + 16 * (0 + 16 * (15 + 16 * (0 + 16 * (15 + 16 * (0 + 16 * (15 + 16 * 0)))))) := rfl
  rw [m, dg_and _ _ _ _ ha (by omega), dg_and _ _ _ _ hb (by omega), dg_and _ _ _ _ hc (by omega), dg_and _ _ _ _ hd (by omega), dg_and _ _ _ _ he (by omega), dg_and _ _ _ _ hf (by omega), dg_and _ _ _ _ hg (by omega), and_15 a ha, and_15 c hc, and_15 e he, and_15 g hg]
  simp only [Nat.and_zero]
  omega
def cnt (k n : Nat) : Nat := fb_ct (fun i => n.testBit i) (4 * k)
theorem cnt_s (k n : Nat) : cnt (k + 1) n = p4 (n % 16) + cnt k (n / 16) := by
  unfold cnt
  rw [show 4 * (k + 1) = 4 + 4 * k by omega, fb_ct_split]
  congr 1
  · have f : ∀ r, r < 16 → fb_ct (fun i => r.testBit i) 4 = p4 r := by decide
    rw [← f (n % 16) (by omega)]
    refine fb_ct_cong fun i hi => ?_
    have := Nat.testBit_mod_two_pow n 4 i
    rw [show (2 : Nat) ^ 4 = 16 from rfl] at this
    rw [this, decide_eq_true hi, Bool.true_and]
  · refine fb_ct_cong fun i hi => ?_
    have := Nat.testBit_div_two_pow (n := 4) n i
    rw [show (2 : Nat) ^ 4 = 16 from rfl] at this
    rw [this, Nat.add_comm]
theorem l3 (P0 P1 P2 P3 P4 P5 P6 P7 : Nat) (b0 : P0 ≤ 4) (b1 : P1 ≤ 4) (b2 : P2 ≤ 4) (b3 : P3 ≤ 4) (b4 : P4 ≤ 4) (b5 : P5 ≤ 4) (b6 : P6 ≤ 4) (b7 : P7 ≤ 4) : (P0 + 16 * (P1 + 16 * (P2 + 16 * (P3 + 16 * (P4 + 16 * (P5 + 16 * (P6 + 16 * (P7 + 16 * 0))))))) + (P0 + 16 * (P1 + 16 * (P2 + 16 * (P3 + 16 * (P4 + 16 * (P5 + 16 * (P6 + 16 * (P7 + 16 * 0)))))))) / 16) % 4294967296 &&& 252645135 = (P0 + P1) + 256 * (P2 + P3) + 65536 * (P4 + P5) + 16777216 * (P6 + P7) := by
  have q : (P0 + 16 * (P1 + 16 * (P2 + 16 * (P3 + 16 * (P4 + 16 * (P5 + 16 * (P6 + 16 * (P7 + 16 * 0)))))))) / 16 = P1 + 16 * (P2 + 16 * (P3 + 16 * (P4 + 16 * (P5 + 16 * (P6 + 16 * (P7 + 16 * 0)))))) := by omega
  rw [q]
  have this : (P0 + 16 * (P1 + 16 * (P2 + 16 * (P3 + 16 * (P4 + 16 * (P5 + 16 * (P6 + 16 * (P7 + 16 * 0))))))) + (P1 + 16 * (P2 + 16 * (P3 + 16 * (P4 + 16 * (P5 + 16 * (P6 + 16 * (P7 + 16 * 0)))))))) % 4294967296 = (P0 + P1) + 16 * ((P1 + P2) + 16 * ((P2 + P3) + 16 * ((P3 + P4) + 16 * ((P4 + P5) + 16 * ((P5 + P6) + 16 * ((P6 + P7) + 16 * P7)))))) := by
    rw [Nat.mod_eq_of_lt (by omega)]
    omega
  rw [this, cm _ _ _ _ _ _ _ _ (by omega) (by omega) (by omega) (by omega) (by omega) (by omega) (by omega) (by omega)]
theorem l4 (A B C D : Nat) (a : A ≤ 8) (b : B ≤ 8) (c : C ≤ 8) (d : D ≤ 8) : (A + 256 * B + 65536 * C + 16777216 * D + (A + 256 * B + 65536 * C + 16777216 * D) / 256) % 4294967296 = (A + B) + 256 * (B + C) + 65536 * (C + D) + 16777216 * D := by
  have q : (A + 256 * B + 65536 * C + 16777216 * D) / 256 = B + 256 * C + 65536 * D := by omega
  rw [q, Nat.mod_eq_of_lt (by omega)]
  omega
theorem l5 (A B C D : Nat) (a : A ≤ 16) (b : B ≤ 16) (c : C ≤ 16) (d : D ≤ 16) : (A + 256 * B + 65536 * C + 16777216 * D + (A + 256 * B + 65536 * C + 16777216 * D) / 65536) % 4294967296 = (A + C) + 256 * (B + D) + 65536 * C + 16777216 * D := by
  have q : (A + 256 * B + 65536 * C + 16777216 * D) / 65536 = C + 256 * D := by omega
  rw [q, Nat.mod_eq_of_lt (by omega)]
  omega
theorem l6 (A B C D : Nat) (a : A ≤ 32) : (A + 256 * B + 65536 * C + 16777216 * D) % 2 ^ 6 = A := by omega
theorem e12 (x : Int32) : uN (bc2 (bc1 x)) = tp 8 (uN x) % 4294967296 := by
  have hx := uN_lt x
  have k1 : uN (sru x 1) = uN x / 2 := uN_sru 1 (by omega) x
  have a1 := st1 8 (uN x) hx
  have e1 : uN (bc1 x) = t1 8 (uN x) := by
    have q : uN (sru x 1 &&& 1431655765) = (uN x / 2 &&& m5 8) := by rw [uN_and, k1]; rfl
    unfold bc1
    rw [uN_sub (by rw [q]; exact a1.1), q, a1.2]
  have k2 : uN (sru (bc1 x) 2) = uN (bc1 x) / 4 := uN_sru 2 (by omega) _
  have a2 := st2 8 (t1 8 (uN x)) (t1_lt 8 _)
  unfold bc2
  rw [uN_add, uN_and, uN_and, k2, e1]
  rw [show uN 858993459 = m3 8 from rfl, a2, t21]
def tpS (n : Nat) : Nat := p4 (n % 16) + (p4 (n / 16 % 16) + (p4 (n / 16 / 16 % 16) + (p4 (n / 16 / 16 / 16 % 16) + (p4 (n / 16 / 16 / 16 / 16 % 16) + (p4 (n / 16 / 16 / 16 / 16 / 16 % 16) + (p4 (n / 16 / 16 / 16 / 16 / 16 / 16 % 16) + (p4 (n / 16 / 16 / 16 / 16 / 16 / 16 / 16 % 16) + 0)))))))
theorem cne (n : Nat) : cnt 8 n = tpS n := by
  simp only [cnt_s]
  rfl
theorem tpe (n : Nat) : tp 8 n = p4 (n % 16) + 16 * (p4 (n / 16 % 16) + 16 * (p4 (n / 16 / 16 % 16) + 16 * (p4 (n / 16 / 16 / 16 % 16) + 16 * (p4 (n / 16 / 16 / 16 / 16 % 16) + 16 * (p4 (n / 16 / 16 / 16 / 16 / 16 % 16) + 16 * (p4 (n / 16 / 16 / 16 / 16 / 16 / 16 % 16) + 16 * (p4 (n / 16 / 16 / 16 / 16 / 16 / 16 / 16 % 16) + 16 * 0))))))) := rfl
theorem p4m (n : Nat) : p4 (n % 16) ≤ 4 := p4_le _ (Nat.mod_lt _ (by omega))
theorem l2 (P0 P1 P2 P3 P4 P5 P6 P7 : Nat) (b0 : P0 ≤ 4) (b1 : P1 ≤ 4) (b2 : P2 ≤ 4) (b3 : P3 ≤ 4) (b4 : P4 ≤ 4) (b5 : P5 ≤ 4) (b6 : P6 ≤ 4) (b7 : P7 ≤ 4) : (P0 + 16 * (P1 + 16 * (P2 + 16 * (P3 + 16 * (P4 + 16 * (P5 + 16 * (P6 + 16 * (P7 + 16 * 0)))))))) % 4294967296 = P0 + 16 * (P1 + 16 * (P2 + 16 * (P3 + 16 * (P4 + 16 * (P5 + 16 * (P6 + 16 * (P7 + 16 * 0))))))) := Nat.mod_eq_of_lt (by omega)
theorem bc_uN (x : Int32) : uN (bc x) = cnt 8 (uN x) := by
  have e2 := e12 x
  rw [tpe] at e2
  rw [cne]
  unfold bc
  unfold tpS
  have b0 := p4m (uN x)
  have b1 := p4m (uN x / 16)
  have b2 := p4m (uN x / 16 / 16)
  have b3 := p4m (uN x / 16 / 16 / 16)
  have b4 := p4m (uN x / 16 / 16 / 16 / 16)
  have b5 := p4m (uN x / 16 / 16 / 16 / 16 / 16)
  have b6 := p4m (uN x / 16 / 16 / 16 / 16 / 16 / 16)
  have b7 := p4m (uN x / 16 / 16 / 16 / 16 / 16 / 16 / 16)
  generalize p4 (uN x % 16) = P0 at *
  generalize p4 (uN x / 16 % 16) = P1 at *
  generalize p4 (uN x / 16 / 16 % 16) = P2 at *
  generalize p4 (uN x / 16 / 16 / 16 % 16) = P3 at *
  generalize p4 (uN x / 16 / 16 / 16 / 16 % 16) = P4 at *
  generalize p4 (uN x / 16 / 16 / 16 / 16 / 16 % 16) = P5 at *
  generalize p4 (uN x / 16 / 16 / 16 / 16 / 16 / 16 % 16) = P6 at *
  generalize p4 (uN x / 16 / 16 / 16 / 16 / 16 / 16 / 16 % 16) = P7 at *
  rw [l2 _ _ _ _ _ _ _ _ b0 b1 b2 b3 b4 b5 b6 b7] at e2
  have k3 : uN (sru (bc2 (bc1 x)) 4) = uN (bc2 (bc1 x)) / 16 := uN_sru 4 (by omega) _
  have e3 : uN (bc3 (bc2 (bc1 x))) = (P0 + P1) + 256 * (P2 + P3) + 65536 * (P4 + P5) + 16777216 * (P6 + P7) := by
    unfold bc3
    rw [uN_and, uN_add, k3, e2, show uN 252645135 = 252645135 from rfl]
    exact l3 _ _ _ _ _ _ _ _ b0 b1 b2 b3 b4 b5 b6 b7
  clear e2 k3
  generalize bc3 (bc2 (bc1 x)) = X at *
  have k4 : uN (sru X 8) = uN X / 256 := uN_sru 8 (by omega) _
  have e4 : uN (bc4 X) = (P0 + P1 + (P2 + P3)) + 256 * (P2 + P3 + (P4 + P5)) + 65536 * (P4 + P5 + (P6 + P7)) + 16777216 * (P6 + P7) := by
    unfold bc4
    rw [uN_add, k4, e3]
    exact l4 _ _ _ _ (by omega) (by omega) (by omega) (by omega)
  clear e3 k4
  generalize bc4 X = Y at *
  have k5 : uN (sru Y 16) = uN Y / 65536 := uN_sru 16 (by omega) _
  have e5 : uN (bc5 Y) = (P0 + P1 + (P2 + P3) + (P4 + P5 + (P6 + P7))) + 256 * (P2 + P3 + (P4 + P5) + (P6 + P7)) + 65536 * (P4 + P5 + (P6 + P7)) + 16777216 * (P6 + P7) := by
    unfold bc5
    rw [uN_add, k5, e4]
    exact l5 _ _ _ _ (by omega) (by omega) (by omega) (by omega)
  clear e4 k5
  show uN (bc5 Y &&& 63) = _
  rw [uN_and, e5, show uN 63 = 2 ^ 6 - 1 from rfl, Nat.and_two_pow_sub_one_eq_mod, l6 _ _ _ _ (by omega)]
  omega
/-- how many bits of a word are set -/
def ct (x : Int32) : Nat := fb_ct (bt x) 32
theorem ct_le (x : Int32) : ct x ≤ 32 := fb_ct_le _ 32
theorem bc_ct (x : Int32) : bc x = nI (ct x) := by
  have h := bc_uN x
  have hc : cnt 8 (uN x) = ct x := rfl
  have hl := ct_le x
  apply Int32.toBitVec_inj.mp
  apply BitVec.eq_of_toNat_eq
  have e : uN (nI (ct x)) = ct x := (by decide +kernel : ∀ k, k < 33 → uN (nI k) = k) (ct x) (by omega)
  exact (h.trans hc).trans e.symm
