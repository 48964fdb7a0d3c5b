/-! Loops with locals that nobody reads; loops that may end early; numbers -/
theorem lp_runV {σ ρ ν : Type} {F : Nat → σ → ν → ρ} {f : Nat → σ → σ} {n : Nat} (h : ∀ i s v, i < n → ∃ v', F i s v = F (i + 1) (f i s) v') (s : σ) (v : ν) : ∃ v', F 0 s v = F n (lp f n s) v' := by
  induction n with
  | zero => exact ⟨v, rfl⟩
  | succ n ih =>
    obtain ⟨v1, e1⟩ := ih (fun i s v hi => h i s v (by omega))
    obtain ⟨v2, e2⟩ := h n (lp f n s) v1 (by omega)
    exact ⟨v2, e1.trans e2⟩
theorem lp_runVI {σ ρ ν : Type} (I : Nat → σ → Prop) {F : Nat → σ → ν → ρ} {f : Nat → σ → σ} {n : Nat} {s : σ} (h0 : I 0 s) (h : ∀ i s v, i < n → I i s → I (i + 1) (f i s) ∧ ∃ v', F i s v = F (i + 1) (f i s) v') (v : ν) : I n (lp f n s) ∧ ∃ v', F 0 s v = F n (lp f n s) v' := by
  induction n with
  | zero => exact ⟨h0, v, rfl⟩
  | succ n ih =>
    obtain ⟨a, v1, e1⟩ := ih (fun i s v hi => h i s v (by omega))
    obtain ⟨b, v2, e2⟩ := h n (lp f n s) v1 (by omega) a
    exact ⟨b, v2, e1.trans e2⟩
def lx {σ ρ : Type} (b : Nat → σ → σ ⊕ ρ) : Nat → σ → σ ⊕ ρ
  | 0, s => .inl s
  | n + 1, s => (lx b n s).elim (b n) .inr
theorem lx_runVI {σ ρ ρ' ν : Type} (I : Nat → σ → Prop) {F : Nat → σ → ν → ρ'} {b : Nat → σ → σ ⊕ ρ} {E : ρ → ρ' → Prop} {n : Nat} {s : σ} (h0 : I 0 s) (h : ∀ i s v, i < n → I i s → (b i s).elim (fun t => I (i + 1) t ∧ ∃ v', F i s v = F (i + 1) t v') (fun r => E r (F i s v))) (v : ν) : (lx b n s).elim (fun t => I n t ∧ ∃ v', F 0 s v = F n t v') (fun r => E r (F 0 s v)) := by
  induction n with
  | zero => exact ⟨h0, v, rfl⟩
  | succ n ih =>
    have a := ih (fun i s v hi => h i s v (by omega))
    show ((lx b n s).elim (b n) .inr).elim _ _
    cases e : lx b n s with
    | inr r => rw [e] at a; exact a
    | inl t =>
      rw [e] at a
      obtain ⟨a1, v1, e1⟩ := a
      have c := h n t v1 (by omega) a1
      show (b n t).elim _ _
      cases e2 : b n t with
      | inr r => rw [e2] at c; exact e1 ▸ c
      | inl t2 =>
        rw [e2] at c
        exact ⟨c.1, c.2.elim fun v2 e3 => ⟨v2, e1.trans e3⟩⟩
theorem fd_runV {ρ ν : Type} {F : Nat → ν → ρ} {c : Nat → Bool} {n : Nat} {r : Nat → ρ} (h : ∀ i v, i < n → (c i = true → F i v = r i) ∧ (c i = false → ∃ v', F i v = F (i + 1) v')) (v : ν) : (∃ i, fd c n = some i ∧ F 0 v = r i) ∨ (fd c n = none ∧ ∃ v', F 0 v = F n v') := by
  induction n with
  | zero => exact .inr ⟨rfl, v, rfl⟩
  | succ n ih =>
    have e2 : fd c (n + 1) = match fd c n with
      | some i => some i
      | none => if c n = true then some n else none := rfl
    rw [e2]
    rcases ih (fun i v hi => h i v (by omega)) with ⟨i, e, q⟩ | ⟨e, v1, q⟩
    · exact .inl ⟨i, by rw [e], q⟩
    · rw [e]
      obtain ⟨a, b⟩ := h n v1 (by omega)
      cases hc : c n with
      | true => exact .inl ⟨n, by simp, q.trans (a hc)⟩
      | false =>
        obtain ⟨v2, z⟩ := b hc
        exact .inr ⟨by simp, v2, q.trans z⟩
theorem bd_nI {lo hi : Int} {x : Int32} (h : bd lo hi x) (h0 : 0 ≤ lo) : x = nI x.toNatClampNeg ∧ (x.toNatClampNeg : Int) = x.toInt := by
  obtain ⟨a, b⟩ := h
  obtain ⟨j, hj, e⟩ := nI_of (x := x) (by rw [i_lt]; have : (0 : Int32).toInt = 0 := by decide
                                          omega)
  subst e
  rw [nI_clamp hj, nI_toInt hj]
  exact ⟨rfl, rfl⟩
theorem nm1 {n : Nat} (h : n < 2 ^ 31) : (nI n = -1) = False := by
  apply propext
  constructor
  · intro q
    have := nI_toInt h
    rw [q] at this
    have e : (-1 : Int32).toInt = -1 := by decide
    omega
  · exact False.elim
theorem nle0 {n : Nat} (h : n < 2 ^ 31) : (nI n ≤ 0) = (n = 0) := by
  have := nLe h (show 0 < 2 ^ 31 by omega)
  rw [show (0 : Int32) = nI 0 from rfl, this]
  apply propext; omega
theorem n0le {n : Nat} (h : n < 2 ^ 31) : (0 ≤ nI n) = True := eq_true (nI_pos' h)
theorem m1_0 : ((0 : Int32) ≤ -1) = False := by decide
/-- a difference of small numbers -/
theorem sub_le0 {a b : Nat} (ha : a < 2 ^ 30) (hb : b < 2 ^ 30) : (nI a - nI b ≤ 0) = (a ≤ b) := by
  apply propext
  rw [i_le, pk_sub_toInt ha hb]
  have : (0 : Int32).toInt = 0 := by decide
  omega
theorem abs_nI {x y : Int32} {lo hi : Int} (hx : bd lo hi x) (hy : bd lo hi y) (hl : -1000 ≤ lo) (hh : hi ≤ 1000) : (if 0 ≤ x - y then x - y else 0 - (x - y)) = nI (x.toInt - y.toInt).natAbs := by
  obtain ⟨a, b⟩ := hx
  obtain ⟨c, e⟩ := hy
  have s : (x - y).toInt = x.toInt - y.toInt := fb_subI (by omega) (by omega)
  have z : (0 : Int32).toInt = 0 := by decide
  apply Int32.toInt_inj.mp
  rw [nI_toInt (by omega)]
  split
  · rename_i q
    rw [i_le, s, z] at q
    rw [s]; omega
  · rename_i q
    rw [i_le, s, z] at q
    rw [fb_subI (by omega) (by omega), s, z]; omega
