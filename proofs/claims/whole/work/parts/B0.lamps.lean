/-! New lamps: what is lit -/
def suN (h : Nat) : Nat := if 6 ≤ h ∧ h ≤ 18 then (if 12 ≤ h then 100 - 12 * (h - 12) else 100 - 12 * (12 - h)) else 0
theorem su_e : ∀ h, h < 24 → sunS (nI h) = nI (suN h) ∧ suN h ≤ 100 := by decide +kernel
theorem bdN {lo hi : Int} {x : Int32} (h : bd lo hi x) (h0 : 0 ≤ lo) {n : Nat} (hn : hi ≤ n) : x = nI x.toNatClampNeg ∧ x.toNatClampNeg ≤ n := by
  have b := bd_nI h h0
  unfold bd at h
  exact ⟨b.1, by omega⟩
def ldN (W : WD) (p h : Nat) : Nat := suN h * (100 - (W (7 + 6 * p + 2)).toNatClampNeg) / 100 * (12 - tN W p) / 12 - 5 * (W (7 + 6 * p + 3)).toNatClampNeg
def lgN (W : WD) (p h : Nat) : Nat := ldN W p h + (W (7 + 6 * p + 5)).toNatClampNeg
theorem ld_e {W : WD} (R : rng W) {p h : Nat} (hp : p < 30) (hh : h < 24) : ldS W p (nI h) = nI (ldN W p h) ∧ ldN W p h ≤ 100 := by
  obtain ⟨se, sl⟩ := su_e h hh
  obtain ⟨te, t1, t9⟩ := tNe R hp
  obtain ⟨-, -, hs, hc, -, -⟩ := rP R hp
  obtain ⟨ae, al⟩ := bdN hs (by omega) (n := 100) (by omega)
  obtain ⟨ce, cl⟩ := bdN hc (by omega) (n := 3) (by omega)
  unfold ldS ldN
  rw [se, te, ae, ce]
  rw [nI_clamp (by omega), nI_clamp (by omega)]
  generalize (W (7 + 6 * p + 2)).toNatClampNeg = A at *
  generalize (W (7 + 6 * p + 3)).toNatClampNeg = C at *
  generalize tN W p = T at *
  generalize suN h = S at *
  have m1 : S * (100 - A) ≤ 100 * 100 := Nat.mul_le_mul sl (by omega)
  have q1 : S * (100 - A) / 100 ≤ 100 := by omega
  have m2 : S * (100 - A) / 100 * (12 - T) ≤ 100 * 12 := Nat.mul_le_mul q1 (by omega)
  have e1 : nI S * (100 - nI A) / 100 = nI (S * (100 - A) / 100) := by
    rw [show (100 : Int32) - nI A = nI (100 - A) from pk_sub (a := 100) al, pk_mul]
    exact pk_div (d := 100) (by omega) (by omega) (by omega)
  rw [e1, show (12 : Int32) - nI T = nI (12 - T) from pk_sub (a := 12) (by omega), pk_mul, show nI (S * (100 - A) / 100 * (12 - T)) / 12 = nI (S * (100 - A) / 100 * (12 - T) / 12) from pk_div (d := 12) (by omega) (by omega) (by omega), n5]
  generalize S * (100 - A) / 100 * (12 - T) = Q at *
  refine ⟨?_, by omega⟩
  apply Int32.toInt_inj.mp
  rw [mx0_toInt, pk_sub_toInt (by omega) (by omega), nI_toInt (by omega)]
  omega
theorem lg_e {W : WD} (R : rng W) {p h : Nat} (hp : p < 30) (hh : h < 24) : lgS W p (nI h) = nI (lgN W p h) ∧ lgN W p h ≤ 199 := by
  obtain ⟨le, ll⟩ := ld_e R hp hh
  obtain ⟨-, -, -, -, -, hl⟩ := rP R hp
  obtain ⟨ae, al⟩ := bdN hl (by omega) (n := 99) (by omega)
  unfold lgS lgN
  rw [le, ae, nI_clamp (by omega), nA]
  exact ⟨rfl, by omega⟩
/-- what a pane lacks -/
def ndN (W : WD) (set : Int32) (h p : Nat) : Nat := if bt set p = true then 50 - lgN W p h else 0
def bsN (w g l p : Nat) : Nat → Nat → Nat := fun k s => s + if bes w g l k = some p then 25 else 0
def bsT (w g l p : Nat) : Nat := lp (bsN w g l p) 4 0
def cN (w g l p : Nat) : Nat := (if l = p then 50 else 0) + bsT w g l p
def bok (w g l k j : Nat) : Bool := decide (1 ≤ w → l < w * g → bes w g l k = bes w g l j → (bes w g l k).isSome = true → k = j)
theorem bok_t : ∀ (w : Fin 7) (g : Fin 6) (l : Fin 30) (k j : Fin 4), bok w g l k j = true := by decide +kernel
theorem bes_one {w g l p k j : Nat} (hw : w < 7) (hg : g < 6) (hl : l < 30) (h1 : 1 ≤ w) (h2 : l < w * g) (hk : k < 4) (hj : j < 4) (a : bes w g l k = some p) (b : bes w g l j = some p) : k = j := of_decide_eq_true (bok_t ⟨w, hw⟩ ⟨g, hg⟩ ⟨l, hl⟩ ⟨k, hk⟩ ⟨j, hj⟩) h1 h2 (a.trans b.symm) (by simp only; rw [a]; rfl)
theorem bsT_e {w g l p : Nat} (hw : w < 7) (hg : g < 6) (h1 : 1 ≤ w) (hN : w * g ≤ 30) (hl : l < w * g) (hp : p < w * g) : bsT w g l p = if bt (abS w g (shl1 l)) p = true then 25 else 0 := by
  have key : bt (abS w g (shl1 l)) p = true ↔ ∃ k, k < 4 ∧ bes w g l k = some p := by
    rw [bt_ab hw hg h1 hN (sub_shl hl (by omega)) (by omega), decide_eq_true hp, Bool.true_and, nb_iff]
    constructor
    · rintro ⟨k, q, hk, e, b⟩
      have : q = l := by
        have hq := bes_lt h1 hp e
        rw [bt_shl1 (by omega) (by omega), decide_eq_true_eq] at b; exact b
      subst this
      exact ⟨opp k, opp_lt hk, bes_opp hw hg (by omega) hk h1 hp e⟩
    · rintro ⟨k, hk, e⟩
      exact ⟨opp k, l, opp_lt hk, bes_opp hw hg (by omega) hk h1 hl e, by rw [bt_shl1 (by omega) (by omega)]; simp⟩
  have gen : ∀ n, n ≤ 4 → (lp (bsN w g l p) n 0 = 25 ∧ ∃ k, k < n ∧ bes w g l k = some p) ∨ (lp (bsN w g l p) n 0 = 0 ∧ ∀ k, k < n → bes w g l k ≠ some p) := by
    intro n
    induction n with
    | zero => exact fun _ => .inr ⟨rfl, fun k hk => by omega⟩
    | succ n ih =>
      intro hn
      rw [lp_s, bsN]
      rcases ih (by omega) with ⟨a, k, hk, e⟩ | ⟨a, b⟩
      · left
        refine ⟨?_, k, by omega, e⟩
        rw [a, if_neg (fun q => by have := bes_one hw hg (by omega) h1 hl (by omega) (by omega) e q; omega)]
      · by_cases c : bes w g l n = some p
        · left; rw [a, if_pos c]; exact ⟨rfl, n, by omega, c⟩
        · right
          rw [a, if_neg c]
          refine ⟨rfl, fun k hk => ?_⟩
          by_cases z : k = n
          · subst z; exact c
          · exact b k (by omega)
  unfold bsT
  rcases gen 4 (by omega) with ⟨a, k, hk, e⟩ | ⟨a, b⟩
  · rw [a, if_pos (key.mpr ⟨k, hk, e⟩)]
  · rw [a, if_neg (fun q => by obtain ⟨k, hk, e⟩ := key.mp q; exact b k hk e)]
def gtN (w g : Nat) (L : Nat → Nat) (p : Nat) : Nat → Nat := fun n => lp (fun k s => s + cN w g (L k) p) n 0
def ltB (W : WD) (set : Int32) (h : Nat) (L : Nat → Nat) (n p : Nat) : Bool := decide (ndN W set h p ≤ gtN (wN W) (gN W) L p n)
def litB (W : WD) (set : Int32) (h : Nat) (L : Nat → Nat) (n : Nat) : Bool := (fd (fun p => !ltB W set h L n p) (pN W)).isNone
theorem litB_iff {W : WD} {set : Int32} {h : Nat} {L : Nat → Nat} {n : Nat} : litB W set h L n = true ↔ ∀ p, p < pN W → ltB W set h L n p = true := by
  unfold litB
  constructor
  · intro q p hp
    cases e : fd (fun p => !ltB W set h L n p) (pN W) with
    | none => have := fd_none e p hp; simpa using this
    | some i => rw [e] at q; cases q
  · intro q
    rw [fd_eqn (fun i hi => by rw [q i hi]; rfl)]
    rfl
def dmS (W : WD) (set : Int32) (h : Nat) : Int32 := bs (pN W) (fun p => bt set p && decide (lgN W p h < 50) && decide (25 ≤ lgN W p h))
def dkS (W : WD) (set : Int32) (h : Nat) : Int32 := bs (pN W) (fun p => bt set p && decide (lgN W p h < 25))
def enB (below one two dim dark : Int32) : Bool := decide (((dim &&& (below ^^^ (-1))) &&& (one ^^^ (-1))) ||| ((dark &&& (below ^^^ (-1))) &&& (two ^^^ (-1))) = 0)
theorem enB_iff {W : WD} (R : rng W) {set below one two : Int32} {h n : Nat} {L : Nat → Nat} (hb : ∀ p, p < pN W → (bt below p = true ↔ ∃ k, k < n ∧ L k = p)) (hg : ∀ p, p < pN W → (25 ≤ gtN (wN W) (gN W) L p n ↔ bt below p = true ∨ bt one p = true) ∧ (50 ≤ gtN (wN W) (gN W) L p n ↔ bt below p = true ∨ bt two p = true)) (h25 : ∀ p, p < pN W → ∃ q, gtN (wN W) (gN W) L p n = 25 * q) : enB below one two (dmS W set h) (dkS W set h) = litB W set h L n := by
  have hN := pN_le R
  apply Bool.eq_iff_iff.mpr
  rw [litB_iff]
  unfold enB
  rw [decide_eq_true_eq, bit_0]
  have bit : ∀ p, p < 32 → bt (((dmS W set h &&& (below ^^^ (-1))) &&& (one ^^^ (-1))) ||| ((dkS W set h &&& (below ^^^ (-1))) &&& (two ^^^ (-1)))) p = ((bt (dmS W set h) p && !bt below p && !bt one p) || (bt (dkS W set h) p && !bt below p && !bt two p)) := fun p hp => by
    rw [b_or, b_and, b_and, b_and, b_and, bt_not _ hp, bt_not _ hp, bt_not _ hp]
  have one' : ∀ p, p < pN W → (bt (((dmS W set h &&& (below ^^^ (-1))) &&& (one ^^^ (-1))) ||| ((dkS W set h &&& (below ^^^ (-1))) &&& (two ^^^ (-1)))) p = false ↔ ltB W set h L n p = true) := fun p hp => by
    obtain ⟨g1, g2⟩ := hg p hp
    obtain ⟨q, hq⟩ := h25 p hp
    rw [bit p (by omega)]
    unfold dmS dkS ltB ndN
    rw [bt_bs (by omega) _ (by omega), bt_bs (by omega) _ (by omega), decide_eq_true hp, decide_eq_true_eq]
    simp only [Bool.true_and]
    cases bt set p
    · simp
    · simp only [Bool.true_and, ↓reduceIte]
      by_cases c1 : lgN W p h < 25
      · have c2 : ¬ 25 ≤ lgN W p h := by omega
        have c3 : lgN W p h < 50 := by omega
        simp only [c1, c2, c3, decide_true, decide_false, Bool.and_false, Bool.false_and, Bool.false_or, Bool.true_and]
        rw [Bool.and_eq_false_iff, Bool.not_eq_false', Bool.not_eq_false', ← g2]
        omega
      · by_cases c3 : lgN W p h < 50
        · have c2 : 25 ≤ lgN W p h := by omega
          simp only [c1, c2, c3, decide_true, decide_false, Bool.and_true, Bool.true_and, Bool.false_and, Bool.or_false]
          rw [Bool.and_eq_false_iff, Bool.not_eq_false', Bool.not_eq_false', ← g1]
          omega
        · simp only [c1, c3, decide_false, Bool.false_and, Bool.or_false, true_iff]
          omega
  constructor
  · intro q p hp
    exact (one' p hp).mp (q p (by omega))
  · intro q i hi
    rcases Nat.lt_or_ge i (pN W) with c | c
    · exact (one' i c).mpr (q i c)
    · rw [bit i hi]
      unfold dmS dkS
      rw [bt_bs (by omega) _ hi, bt_bs (by omega) _ hi, decide_eq_false (by omega)]
      rfl
def L1 (a : Nat) : Nat → Nat := fun _ => a
def L2 (a b : Nat) : Nat → Nat := fun k => if k = 0 then a else b
def L3 (a b c : Nat) : Nat → Nat := fun k => if k = 0 then a else if k = 1 then b else c
section En
variable {W : WD} {set : Int32} {h : Nat}
def bsd (W : WD) (l : Nat) : Int32 := abS (wN W) (gN W) (shl1 l)
theorem cN_e (R : rng W) {l p : Nat} (hl : l < pN W) (hp : p < pN W) : cN (wN W) (gN W) l p = (if l = p then 50 else 0) + (if bt (bsd W l) p = true then 25 else 0) := by
  have hN := pN_le R
  have hw := R.1.1.2
  have hg := R.1.2.1.2
  unfold cN bsd
  rw [bsT_e (by omega) (by omega) hw.1 hN hl hp]
theorem b2 (c : Prop) [Decidable c] : (if c then 50 else 0 : Nat) = 25 * (if c then 2 else 0) := by split <;> rfl
theorem b1 (c : Prop) [Decidable c] : (if c then 25 else 0 : Nat) = 25 * (if c then 1 else 0) := by split <;> rfl
theorem en1 (R : rng W) {a : Nat} (ha : a < pN W) : enB (shl1 a) (bsd W a) 0 (dmS W set h) (dkS W set h) = litB W set h (L1 a) 1 := by
  have hN := pN_le R
  have g : ∀ p, p < pN W → gtN (wN W) (gN W) (L1 a) p 1 = (if a = p then 50 else 0) + (if bt (bsd W a) p = true then 25 else 0) := fun p hp => by
    show 0 + cN _ _ a p = _
    rw [cN_e R ha hp, Nat.zero_add]
  have bb : ∀ p, p < pN W → (bt (shl1 a) p = true ↔ a = p) := fun p hp => by rw [bt_shl1 (by omega) (by omega), decide_eq_true_eq]; exact eq_comm
  refine enB_iff R (fun p hp => ?_) (fun p hp => ?_) (fun p hp => ?_)
  · rw [bb p hp]
    exact ⟨fun q => ⟨0, by omega, q⟩, fun q => q.elim fun _ q => q.2⟩
  · rw [g p hp, bb p hp, b_0]
    generalize bt (bsd W a) p = X
    by_cases c : a = p <;> cases X <;> simp [c]
  · rw [g p hp, b2, b1]
    exact ⟨_, (Nat.mul_add _ _ _).symm⟩
theorem en2 (R : rng W) {a b : Nat} (ha : a < pN W) (hb : b < a) : enB (shl1 a ||| shl1 b) (bsd W a ||| bsd W b) (bsd W a &&& bsd W b) (dmS W set h) (dkS W set h) = litB W set h (L2 a b) 2 := by
  have hN := pN_le R
  have g : ∀ p, p < pN W → gtN (wN W) (gN W) (L2 a b) p 2 = ((if a = p then 50 else 0) + (if bt (bsd W a) p = true then 25 else 0)) + ((if b = p then 50 else 0) + (if bt (bsd W b) p = true then 25 else 0)) := fun p hp => by
    show (0 + cN _ _ a p) + cN _ _ b p = _
    rw [cN_e R ha hp, cN_e R (show b < pN W by omega) hp, Nat.zero_add]
  have bb : ∀ p, p < pN W → (bt (shl1 a ||| shl1 b) p = true ↔ (a = p ∨ b = p)) := fun p hp => by
    rw [b_or, Bool.or_eq_true, bt_shl1 (by omega) (by omega), bt_shl1 (by omega) (by omega), decide_eq_true_eq, decide_eq_true_eq]
    omega
  refine enB_iff R (fun p hp => ?_) (fun p hp => ?_) (fun p hp => ?_)
  · rw [bb p hp]
    constructor
    · rintro (q | q)
      · exact ⟨0, by omega, q⟩
      · exact ⟨1, by omega, q⟩
    · rintro ⟨k, hk, q⟩
      have hk' : k = 0 ∨ k = 1 := by omega
      rcases hk' with rfl | rfl
      · exact .inl q
      · exact .inr q
  · rw [g p hp, bb p hp, b_or, b_and, Bool.or_eq_true, Bool.and_eq_true]
    by_cases c : a = p <;> by_cases c' : b = p <;> by_cases c2 : bt (bsd W a) p = true <;> by_cases c3 : bt (bsd W b) p = true <;> simp only [c, c', c2, c3, ↓reduceIte, true_or, or_true, or_false, false_or, and_true, true_and, and_false, false_and, or_self, and_self, iff_true, iff_false, Bool.false_eq_true] <;> omega
  · rw [g p hp, b2, b1, b2, b1, ← Nat.mul_add, ← Nat.mul_add, ← Nat.mul_add]
    exact ⟨_, rfl⟩
theorem en3 (R : rng W) {a b c : Nat} (ha : a < pN W) (hb : b < a) (hc : c < b) : enB ((shl1 a ||| shl1 b) ||| shl1 c) ((bsd W a ||| bsd W b) ||| bsd W c) (((bsd W a &&& bsd W b) ||| (bsd W a &&& bsd W c)) ||| (bsd W b &&& bsd W c)) (dmS W set h) (dkS W set h) = litB W set h (L3 a b c) 3 := by
  have hN := pN_le R
  have g : ∀ p, p < pN W → gtN (wN W) (gN W) (L3 a b c) p 3 = (((if a = p then 50 else 0) + (if bt (bsd W a) p = true then 25 else 0)) + ((if b = p then 50 else 0) + (if bt (bsd W b) p = true then 25 else 0))) + ((if c = p then 50 else 0) + (if bt (bsd W c) p = true then 25 else 0)) := fun p hp => by
    show ((0 + cN _ _ a p) + cN _ _ b p) + cN _ _ c p = _
    rw [cN_e R ha hp, cN_e R (show b < pN W by omega) hp, cN_e R (show c < pN W by omega) hp, Nat.zero_add]
  have bb : ∀ p, p < pN W → (bt ((shl1 a ||| shl1 b) ||| shl1 c) p = true ↔ (a = p ∨ b = p ∨ c = p)) := fun p hp => by
    rw [b_or, b_or, Bool.or_eq_true, Bool.or_eq_true, bt_shl1 (by omega) (by omega), bt_shl1 (by omega) (by omega), bt_shl1 (by omega) (by omega), decide_eq_true_eq, decide_eq_true_eq, decide_eq_true_eq]
    omega
  refine enB_iff R (fun p hp => ?_) (fun p hp => ?_) (fun p hp => ?_)
  · rw [bb p hp]
    constructor
    · rintro (q | q | q)
      · exact ⟨0, by omega, q⟩
      · exact ⟨1, by omega, q⟩
      · exact ⟨2, by omega, q⟩
    · rintro ⟨k, hk, q⟩
      have hk' : k = 0 ∨ k = 1 ∨ k = 2 := by omega
      rcases hk' with rfl | rfl | rfl
      · exact .inl q
      · exact .inr (.inl q)
      · exact .inr (.inr q)
  · rw [g p hp, bb p hp, b_or, b_or, b_or, b_or, b_and, b_and, b_and, Bool.or_eq_true, Bool.or_eq_true, Bool.or_eq_true, Bool.or_eq_true, Bool.and_eq_true, Bool.and_eq_true, Bool.and_eq_true]
    by_cases c1 : a = p <;> by_cases c1' : b = p <;> by_cases c1'' : c = p <;> by_cases c2 : bt (bsd W a) p = true <;> by_cases c3 : bt (bsd W b) p = true <;> by_cases c4 : bt (bsd W c) p = true <;> simp only [c1, c1', c1'', c2, c3, c4, ↓reduceIte, true_or, or_true, or_false, false_or, and_true, true_and, and_false, false_and, or_self, and_self, iff_true, iff_false, Bool.false_eq_true] <;> omega
  · rw [g p hp, b2, b1, b2, b1, b2, b1, ← Nat.mul_add, ← Nat.mul_add, ← Nat.mul_add, ← Nat.mul_add, ← Nat.mul_add]
    exact ⟨_, rfl⟩
theorem en0 (R : rng W) : (dmS W set h ||| dkS W set h = 0) = (litB W set h (L1 0) 0 = true) := by
  have hN := pN_le R
  have e := enB_iff R (set := set) (below := 0) (one := 0) (two := 0) (h := h) (n := 0) (L := L1 0) (fun p hp => by rw [b_0]; exact ⟨fun q => (by cases q), fun q => q.elim fun k q => absurd q.1 (by omega)⟩) (fun p hp => by
    have : gtN (wN W) (gN W) (L1 0) p 0 = 0 := rfl
    rw [this, b_0]
    constructor <;> constructor
    · intro q; omega
    · rintro (q | q) <;> cases q
    · intro q; omega
    · rintro (q | q) <;> cases q) (fun p hp => ⟨0, rfl⟩)
  rw [← e]
  unfold enB
  rw [decide_eq_true_eq]
  have z : ∀ x : Int32, (x &&& ((0 : Int32) ^^^ (-1))) &&& ((0 : Int32) ^^^ (-1)) = x := fun x => by
    apply b_ext
    intro i hi
    rw [b_and, b_and, bt_not _ hi, b_0]
    simp
  rw [z, z]
end En
