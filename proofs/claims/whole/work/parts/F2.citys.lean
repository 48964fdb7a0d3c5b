/-! A text of the city: what it says -/
def sbd {α β : Type} (x : Nat ⊕ α) (f : α → Nat ⊕ β) : Nat ⊕ β := match x with
  | .inl e => .inl e
  | .inr a => f a
theorem sbd_l {α β : Type} (e : Nat) (f : α → Nat ⊕ β) : sbd (.inl e) f = .inl e := rfl
theorem sbd_r {α β : Type} (a : α) (f : α → Nat ⊕ β) : sbd (.inr a) f = f a := rfl
def nmS (B : Nat → Int32) (l p : Nat) (lo hi : Int32) : Nat ⊕ (Int32 × Nat) := (num B l p lo hi).elim (.inl (sb B l p)) .inr
def pnS (B : Nat → Int32) (l : Nat) (W : WD) (p : Nat) : Nat ⊕ (Nat × Nat) := sbd (nmS B l p 0 (nI (wN W) - 1)) fun x => sbd (nmS B l x.2 0 (nI (gN W) - 1)) fun y => .inr (wN W * y.1.toNatClampNeg + x.1.toNatClampNeg, y.2)
def prS (B : Nat → Int32) (l : Nat) (W : WD) (k : Nat) (lo hi by' : Int32) (p : Nat) : Nat ⊕ (WD × Nat) := sbd (pnS B l W p) fun c => sbd (nmS B l c.2 lo hi) fun v => .inr (upd W (7 + 6 * c.1 + k) (by' * v.1), v.2)
def szW (W : WD) (w g : Int32) : WD := fun i => if i = 0 then w else if i = 1 then g else if i = 2 then 0 else if 7 ≤ i ∧ i < 427 then (if i < 187 then (if (i - 7) % 6 = 0 then 4 else if (i - 7) % 6 = 1 then 10 else 0) else 0) else W i
def szS (B : Nat → Int32) (l : Nat) (W : WD) (p : Nat) : Nat ⊕ (WD × Nat) := sbd (nmS B l p 1 6) fun w => sbd (nmS B l w.2 1 5) fun g => .inr (szW W w.1 g.1, g.2)
def w_to : List Nat := [116, 111]
def w_felt : List Nat := [102, 101, 108, 116]
def w_size : List Nat := [115, 105, 122, 101]
def w_thick : List Nat := [116, 104, 105, 99, 107]
def w_heat : List Nat := [104, 101, 97, 116]
def w_cold : List Nat := [99, 111, 108, 100]
def w_sand : List Nat := [115, 97, 110, 100]
def w_owner : List Nat := [111, 119, 110, 101, 114]
def w_lamp : List Nat := [108, 97, 109, 112]
def w_cart : List Nat := [99, 97, 114, 116]
theorem l_to : low w_to := by unfold low; decide
theorem l_felt : low w_felt := by unfold low; decide
theorem l_size : low w_size := by unfold low; decide
theorem l_thick : low w_thick := by unfold low; decide
theorem l_heat : low w_heat := by unfold low; decide
theorem l_cold : low w_cold := by unfold low; decide
theorem l_sand : low w_sand := by unfold low; decide
theorem l_owner : low w_owner := by unfold low; decide
theorem l_lamp : low w_lamp := by unfold low; decide
theorem l_cart : low w_cart := by unfold low; decide
def krW (W : WD) (w : Int32) (c : Nat) (f t e : Int32) : WD := upd (upd (upd (upd (upd (upd W (187 + 5 * kN W) w) (187 + 5 * kN W + 1) (nI c)) (187 + 5 * kN W + 2) f) (187 + 5 * kN W + 3) t) (187 + 5 * kN W + 4) e) 2 (nI (kN W + 1))
def crS (B : Nat → Int32) (l : Nat) (W : WD) (p : Nat) : Nat ⊕ (WD × Nat) := sbd (nmS B l p 1 200) fun w => sbd (pnS B l W w.2) fun c => sbd (nmS B l c.2 0 23) fun f => if wd B l (sb B l f.2) w_to = true then (sbd (nmS B l (sb B l f.2 + 2) 0 23) fun t => .inr (krW W w.1 c.1 f.1 t.1 (bI (wd B l (sb B l t.2) w_felt)), if wd B l (sb B l t.2) w_felt = true then sb B l t.2 + 4 else sb B l t.2)) else .inl (sb B l f.2)
def clS (B : Nat → Int32) (l : Nat) (W : WD) (q : Nat) : Nat ⊕ (WD × Nat) :=
  if wd B l q w_size = true then szS B l W (q + 4)
  else if wd B l q w_thick = true then prS B l W 0 1 9 1 (q + 5)
  else if wd B l q w_heat = true then prS B l W 1 0 60 1 (q + 4)
  else if wd B l q w_cold = true then prS B l W 1 0 40 (-1) (q + 4)
  else if wd B l q w_sand = true then prS B l W 2 0 100 1 (q + 4)
  else if wd B l q w_owner = true then prS B l W 4 0 7 1 (q + 5)
  else if wd B l q w_lamp = true then prS B l W 5 0 99 1 (q + 4)
  else if wd B l q w_cart = true then (if kN W = 12 then .inl q else crS B l W (q + 4))
  else .inl q
def clsS (B : Nat → Int32) (l : Nat) : Nat → WD → Nat → Nat ⊕ WD
  | 0, _, p => .inl (sb B l p)
  | k + 1, W, p => sbd (clS B l W (sb B l p)) fun x => if sb B l x.2 = l then .inr x.1 else if sg B l x.2 59 = true then clsS B l k x.1 (sb B l x.2 + 1) else .inl (sb B l x.2)
def ctS (B : Nat → Int32) (l : Nat) (W : WD) : Nat ⊕ WD := if sb B l 0 = l then .inr W else clsS B l 14 W (sb B l 0)
section SpecC
variable {B : Nat → Int32} {l p : Nat} {W : WD}
theorem nmS_r {lo hi : Int32} {x : Int32 × Nat} (h : nmS B l p lo hi = .inr x) : num B l p lo hi = some x := by
  unfold nmS at h
  cases e : num B l p lo hi with
  | none => rw [e] at h; cases h
  | some y => rw [e] at h; cases h; rfl
theorem sbd_ok {α β : Type} {x : Nat ⊕ α} {f : α → Nat ⊕ β} {b : β} (h : sbd x f = .inr b) : ∃ a, x = .inr a ∧ f a = .inr b := by
  cases x with
  | inl e => cases h
  | inr a => exact ⟨a, rfl, h⟩
/-- a number's bounds -/
theorem nmS_bd {lo hi : Int32} {x : Int32 × Nat} (h : nmS B l p lo hi = .inr x) : p < x.2 ∧ x.2 ≤ l ∧ bd lo.toInt hi.toInt x.1 ∧ ∃ j, j ≤ 999 ∧ x.1 = nI j := by
  obtain ⟨a, b, c, e, j⟩ := num_some (nmS_r (x := (x.1, x.2)) h)
  have := sb_ge B l p
  exact ⟨by omega, b, ⟨(i_le _ _).mp c, (i_le _ _).mp e⟩, j⟩
theorem nmS_ix {n : Nat} (hn : n < 2 ^ 30) {x : Int32 × Nat} (h : nmS B l p 0 (nI n - 1) = .inr x) : p < x.2 ∧ x.2 ≤ l ∧ x.1 = nI x.1.toNatClampNeg ∧ x.1.toNatClampNeg < n := by
  obtain ⟨a, b, c, e, j⟩ := num_some (nmS_r (x := (x.1, x.2)) h)
  have := sb_ge B l p
  obtain ⟨i, hi, ei⟩ := inB_ix hn (inB_t.mpr ⟨c, e⟩)
  refine ⟨by omega, b, ?_, ?_⟩
  · rw [ei, nI_clamp (by omega)]
  · rw [ei, nI_clamp (by omega)]; exact hi
theorem pnS_ok (R : rng W) {x : Nat × Nat} (h : pnS B l W p = .inr x) : p < x.2 ∧ x.2 ≤ l ∧ x.1 < pN W := by
  obtain ⟨a, ea, h⟩ := sbd_ok h
  obtain ⟨b, eb, h⟩ := sbd_ok h
  cases h
  have hw := R.1.1.2
  have hg := R.1.2.1.2
  obtain ⟨a1, a2, a3, a4⟩ := nmS_ix (by omega) ea
  obtain ⟨b1, b2, b3, b4⟩ := nmS_ix (by omega) eb
  refine ⟨by simp only; omega, b2, ?_⟩
  simp only
  unfold pN
  have : wN W * (b.1.toNatClampNeg + 1) ≤ wN W * gN W := Nat.mul_le_mul_left _ b4
  rw [Nat.mul_add, Nat.mul_one] at this
  omega
theorem prS_ok (R : rng W) {k : Nat} {lo hi by' : Int32} (hk : k < 6) (hx : ∀ v, bd lo.toInt hi.toInt v → (∃ j, j ≤ 999 ∧ v = nI j) → (k = 0 → bd 1 9 (by' * v)) ∧ (k = 1 → bd (-40) 60 (by' * v)) ∧ (k = 2 → bd 0 100 (by' * v)) ∧ (k = 3 → bd 0 3 (by' * v)) ∧ (k = 4 → bd 0 7 (by' * v)) ∧ (k = 5 → bd 0 99 (by' * v))) {x : WD × Nat} (h : prS B l W k lo hi by' p = .inr x) : rng x.1 ∧ p < x.2 ∧ x.2 ≤ l := by
  obtain ⟨a, ea, h⟩ := sbd_ok h
  obtain ⟨b, eb, h⟩ := sbd_ok h
  cases h
  obtain ⟨a1, a2, a3⟩ := pnS_ok R ea
  obtain ⟨b1, b2, b3, b4⟩ := nmS_bd eb
  have := pN_le R
  exact ⟨rng_pk R (by omega) hk (hx _ b3 b4), by simp only; omega, b2⟩
theorem szW_p {w g : Int32} {q k : Nat} (hq : q < 30) (hk : k < 6) : szW W w g (7 + 6 * q + k) = if k = 0 then 4 else if k = 1 then 10 else 0 := by
  unfold szW
  rw [if_neg (by omega), if_neg (by omega), if_neg (by omega), if_pos (by omega), if_pos (by omega), show (7 + 6 * q + k - 7) % 6 = k by omega]
theorem szW_rng (R : rng W) {w g : Int32} (hw : bd 1 6 w) (hg : bd 1 5 g) : rng (szW W w g) := by
  obtain ⟨w1, w2⟩ := bd_nI hw (by omega)
  obtain ⟨g1, g2⟩ := bd_nI hg (by omega)
  have e0 : wN (szW W w g) = w.toNatClampNeg := rfl
  have e1 : gN (szW W w g) = g.toNatClampNeg := rfl
  have e2 : kN (szW W w g) = 0 := rfl
  have e5 : sN (szW W w g) = sN W := rfl
  obtain ⟨hw1, hw2⟩ := hw
  obtain ⟨hg1, hg2⟩ := hg
  refine ⟨⟨⟨by rw [e0]; exact w1, by rw [e0]; omega, by rw [e0]; omega⟩, ⟨by rw [e1]; exact g1, by rw [e1]; omega, by rw [e1]; omega⟩, ⟨by rw [e2]; rfl, by rw [e2]; omega⟩, ⟨by rw [e5]; exact R.1.2.2.2.1.1, by rw [e5]; exact R.1.2.2.2.1.2⟩, R.1.2.2.2.2.1, R.1.2.2.2.2.2⟩, fun q hq => ?_, fun k hk => absurd hk (by rw [e2]; omega), fun i hi => ?_⟩
  · have q0 := szW_p (W := W) (w := w) (g := g) hq (k := 0) (by omega)
    rw [Nat.add_zero] at q0
    rw [q0, szW_p hq (by omega), szW_p hq (by omega), szW_p hq (by omega), szW_p hq (by omega), szW_p hq (by omega)]
    exact ⟨⟨by decide, by decide⟩, ⟨by decide, by decide⟩, ⟨by decide, by decide⟩, ⟨by decide, by decide⟩, ⟨by decide, by decide⟩, ⟨by decide, by decide⟩⟩
  · have : szW W w g (247 + i) = 0 := by
      unfold szW
      rw [if_neg (by omega), if_neg (by omega), if_neg (by omega), if_pos (by omega), if_neg (by omega)]
    rw [this]
    exact ⟨by decide, by decide⟩
theorem szS_ok (R : rng W) {x : WD × Nat} (h : szS B l W p = .inr x) : rng x.1 ∧ p < x.2 ∧ x.2 ≤ l := by
  obtain ⟨a, ea, h⟩ := sbd_ok h
  obtain ⟨b, eb, h⟩ := sbd_ok h
  cases h
  obtain ⟨a1, a2, a3, -⟩ := nmS_bd ea
  obtain ⟨b1, b2, b3, -⟩ := nmS_bd eb
  exact ⟨szW_rng R a3 b3, by simp only; omega, b2⟩
theorem krW_o {w f t e : Int32} {c i : Nat} (h : i ≠ 2 ∧ (i < 187 + 5 * kN W ∨ 187 + 5 * kN W + 5 ≤ i)) : krW W w c f t e i = W i := by
  unfold krW
  rw [pk_un (by omega), pk_un (by omega), pk_un (by omega), pk_un (by omega), pk_un (by omega), pk_un (by omega)]
theorem krW_k {w f t e : Int32} {c : Nat} : krW W w c f t e (187 + 5 * kN W) = w ∧ krW W w c f t e (187 + 5 * kN W + 1) = nI c ∧ krW W w c f t e (187 + 5 * kN W + 2) = f ∧ krW W w c f t e (187 + 5 * kN W + 3) = t ∧ krW W w c f t e (187 + 5 * kN W + 4) = e := by
  unfold krW
  refine ⟨?_, ?_, ?_, ?_, ?_⟩
  · rw [pk_un (by omega), pk_un (by omega), pk_un (by omega), pk_un (by omega), pk_un (by omega), pk_us]
  · rw [pk_un (by omega), pk_un (by omega), pk_un (by omega), pk_un (by omega), pk_us]
  · rw [pk_un (by omega), pk_un (by omega), pk_un (by omega), pk_us]
  · rw [pk_un (by omega), pk_un (by omega), pk_us]
  · rw [pk_un (by omega), pk_us]
theorem krW_n {w f t e : Int32} {c : Nat} (hk : kN W < 12) : wN (krW W w c f t e) = wN W ∧ gN (krW W w c f t e) = gN W ∧ kN (krW W w c f t e) = kN W + 1 ∧ sN (krW W w c f t e) = sN W := by
  refine ⟨?_, ?_, ?_, ?_⟩
  · unfold wN; rw [krW_o (by omega)]
  · unfold gN; rw [krW_o (by omega)]
  · show (krW W w c f t e 2).toNatClampNeg = _
    unfold krW
    rw [pk_us, nI_clamp (by omega)]
  · unfold sN; rw [krW_o (by omega)]
theorem krW_rng (R : rng W) (hk : kN W < 12) {w f t e : Int32} {c : Nat} (hw : bd 1 200 w) (hc : c < pN W) (hf : bd 0 23 f) (ht : bd 0 23 t) (he : e = 0 ∨ e = 1) : rng (krW W w c f t e) := by
  obtain ⟨n0, n1, n2, n5⟩ := krW_n (w := w) (f := f) (t := t) (e := e) (c := c) hk
  have np : pN (krW W w c f t e) = pN W := by unfold pN; rw [n0, n1]
  obtain ⟨r1, r2, r3, r4⟩ := R
  refine ⟨⟨?_, ?_, ?_, ?_, ?_, ?_⟩, fun q hq => ?_, fun k hk' => ?_, fun i hi => ?_⟩
  · rw [n0, krW_o (by omega)]; exact r1.1
  · rw [n1, krW_o (by omega)]; exact r1.2.1
  · rw [n2]; exact ⟨pk_us, by omega⟩
  · rw [n5, krW_o (by omega)]; exact r1.2.2.2.1
  · rw [krW_o (by omega)]; exact r1.2.2.2.2.1
  · rw [krW_o (by omega)]; exact r1.2.2.2.2.2
  · rw [krW_o (by omega), krW_o (by omega), krW_o (by omega), krW_o (by omega), krW_o (by omega), krW_o (by omega)]; exact r2 q hq
  · rw [n2] at hk'
    rw [np]
    by_cases z : k = kN W
    · subst z
      obtain ⟨k0, k1, k2, k3, k4⟩ := krW_k (W := W) (w := w) (f := f) (t := t) (e := e) (c := c)
      rw [k0, k1, k2, k3, k4]
      exact ⟨hw, ⟨c, hc, rfl⟩, hf, ht, he⟩
    · rw [krW_o (by omega), krW_o (by omega), krW_o (by omega), krW_o (by omega), krW_o (by omega)]; exact r3 k (by omega)
  · rw [krW_o (by omega)]; exact r4 i hi
theorem bI01 (b : Bool) : bI b = 0 ∨ bI b = 1 := by cases b <;> simp [bI]
theorem crS_ok (R : rng W) (hk : kN W < 12) {x : WD × Nat} (h : crS B l W p = .inr x) : rng x.1 ∧ p < x.2 ∧ x.2 ≤ l := by
  obtain ⟨a, ea, h⟩ := sbd_ok h
  obtain ⟨b, eb, h⟩ := sbd_ok h
  obtain ⟨f, ef, h⟩ := sbd_ok h
  obtain ⟨a1, a2, a3, -⟩ := nmS_bd ea
  obtain ⟨b1, b2, b3⟩ := pnS_ok R eb
  obtain ⟨f1, f2, f3, -⟩ := nmS_bd ef
  split at h
  · rename_i q
    obtain ⟨t, et, h⟩ := sbd_ok h
    cases h
    obtain ⟨t1, t2, t3, -⟩ := nmS_bd et
    have s1 := sb_ge B l f.2
    have s2 := sb_ge B l t.2
    have s3 := sb_le (B := B) t2
    refine ⟨krW_rng R hk a3 b3 f3 t3 (bI01 _), ?_, ?_⟩
    · simp only
      split <;> omega
    · simp only
      split
      · rename_i z
        have := (wd_le l_felt z).2
        exact this
      · exact s3
  · cases h
theorem clS_ok (R : rng W) {q : Nat} {x : WD × Nat} (h : clS B l W q = .inr x) : rng x.1 ∧ q < x.2 ∧ x.2 ≤ l := by
  have one : ∀ v : Int32, (1 : Int32) * v = v := fun v => Int32.one_mul v
  have z00 : (0 : Int32).toInt = 0 := by decide
  have tr : ∀ {n : Nat} {x : WD × Nat}, rng x.1 ∧ q + n < x.2 ∧ x.2 ≤ l → rng x.1 ∧ q < x.2 ∧ x.2 ≤ l := fun z => ⟨z.1, by omega, z.2.2⟩
  unfold clS at h
  split at h
  · exact tr (szS_ok R h)
  split at h
  · exact tr (prS_ok R (by omega) (fun v b _ => by rw [one]; exact ⟨fun _ => b, fun z => by omega, fun z => by omega, fun z => by omega, fun z => by omega, fun z => by omega⟩) h)
  split at h
  · exact tr (prS_ok R (by omega) (fun v b _ => by rw [one]; exact ⟨fun z => by omega, fun _ => ⟨by have := b.1; rw [z00] at this; omega, b.2⟩, fun z => by omega, fun z => by omega, fun z => by omega, fun z => by omega⟩) h)
  split at h
  · refine tr (prS_ok R (by omega) (fun v b j => ⟨fun z => by omega, fun _ => ?_, fun z => by omega, fun z => by omega, fun z => by omega, fun z => by omega⟩) h)
    obtain ⟨j, hj, rfl⟩ := j
    have e : ((-1 : Int32) * nI j).toInt = - (j : Int) := by
      have hm : (-1 : Int32) * nI j = 0 - nI j := by rw [Int32.neg_mul, Int32.one_mul, Int32.zero_sub]
      have := pk_sub_toInt (a := 0) (b := j) (by omega) (by omega)
      rw [hm, show (0 : Int32) = nI 0 from rfl, this]; omega
    have b2 := b.2
    rw [nI_toInt (by omega)] at b2
    have e4 : (40 : Int32).toInt = 40 := by decide
    exact ⟨by rw [e]; omega, by rw [e]; omega⟩
  split at h
  · exact tr (prS_ok R (by omega) (fun v b _ => by rw [one]; exact ⟨fun z => by omega, fun z => by omega, fun _ => b, fun z => by omega, fun z => by omega, fun z => by omega⟩) h)
  split at h
  · exact tr (prS_ok R (by omega) (fun v b _ => by rw [one]; exact ⟨fun z => by omega, fun z => by omega, fun z => by omega, fun z => by omega, fun _ => b, fun z => by omega⟩) h)
  split at h
  · exact tr (prS_ok R (by omega) (fun v b _ => by rw [one]; exact ⟨fun z => by omega, fun z => by omega, fun z => by omega, fun z => by omega, fun z => by omega, fun _ => b⟩) h)
  split at h
  · split at h
    · cases h
    · have := kN_le R
      exact tr (crS_ok R (by omega) h)
  · cases h
theorem clsS_ok : ∀ (k : Nat) {W V : WD} {p : Nat}, rng W → clsS B l k W p = .inr V → rng V
  | 0, W, V, p, R, h => by cases h
  | k + 1, W, V, p, R, h => by
    obtain ⟨a, ea, h⟩ := sbd_ok (x := clS B l W (sb B l p)) h
    have := (clS_ok R ea).1
    split at h
    · cases h; exact this
    split at h
    · exact clsS_ok k this h
    · cases h
theorem ctS_ok {V : WD} (R : rng W) (h : ctS B l W = .inr V) : rng V := by
  unfold ctS at h
  split at h
  · cases h; exact R
  · exact clsS_ok _ R h
/-- what lies behind the city's numbers stays -/
theorem szW_hi {w g : Int32} {i : Nat} (h : 427 ≤ i ∨ i = 4) : szW W w g i = W i := by
  unfold szW
  rw [if_neg (by omega), if_neg (by omega), if_neg (by omega), if_neg (by omega)]
theorem clS_hi (R : rng W) {q : Nat} {x : WD × Nat} (h : clS B l W q = .inr x) {i : Nat} (hi : 427 ≤ i ∨ i = 4 ∨ i = 3) : x.1 i = W i := by
  have pr : ∀ {k : Nat} {lo hi' by' : Int32} {p : Nat} {x : WD × Nat}, k < 6 → prS B l W k lo hi' by' p = .inr x → x.1 i = W i := fun {k lo hi' by' p x} hk h => by
    obtain ⟨a, ea, h⟩ := sbd_ok h
    obtain ⟨b, eb, h⟩ := sbd_ok h
    cases h
    have := (pnS_ok R ea).2.2
    have := pN_le R
    exact pk_un (by omega)
  unfold clS at h
  split at h
  · obtain ⟨a, ea, h⟩ := sbd_ok h
    obtain ⟨b, eb, h⟩ := sbd_ok h
    cases h
    show szW W a.1 b.1 i = W i
    unfold szW
    rw [if_neg (by omega), if_neg (by omega), if_neg (by omega), if_neg (by omega)]
  iterate 6
    split at h
    · exact pr (by omega) h
  split at h
  · split at h
    · cases h
    · have := kN_le R
      obtain ⟨a, ea, h⟩ := sbd_ok h
      obtain ⟨b, eb, h⟩ := sbd_ok h
      obtain ⟨f, ef, h⟩ := sbd_ok h
      split at h
      · obtain ⟨t, et, h⟩ := sbd_ok h
        cases h
        exact krW_o (by omega)
      · cases h
  · cases h
theorem clsS_hi {i : Nat} (hi : 427 ≤ i ∨ i = 4 ∨ i = 3) : ∀ (k : Nat) {W V : WD} {p : Nat}, rng W → clsS B l k W p = .inr V → V i = W i
  | 0, W, V, p, R, h => by cases h
  | k + 1, W, V, p, R, h => by
    obtain ⟨a, ea, h⟩ := sbd_ok (x := clS B l W (sb B l p)) h
    have r := (clS_ok R ea).1
    have e := clS_hi R ea hi
    split at h
    · cases h; exact e
    split at h
    · exact (clsS_hi hi k r h).trans e
    · cases h
theorem ctS_hi {V : WD} (R : rng W) (h : ctS B l W = .inr V) {i : Nat} (hi : 427 ≤ i ∨ i = 4 ∨ i = 3) : V i = W i := by
  unfold ctS at h
  split at h
  · cases h; rfl
  · exact clsS_hi hi _ R h
end SpecC
