/-! The small machine's plain steps. nx: where it goes on. -/
def o_push (v : Value) (nx : Nat) : mS := fun _ ls st h => some (nx, ls, v :: st, h)
/-- a static: a thing from before, or null where there is none -/
def m_sv (O : mO) (v : Value) : Value := match v with
  | .retAddr k => if (O k).isSome = true then .retAddr k else .null
  | v => v
def o_gst (v : Value) (nx : Nat) : mS := fun O ls st h => some (nx, ls, m_sv O v :: st, h)
def o_ldI (i nx : Nat) : mS := fun _ ls st h => match ls[i]? with
  | some (.int x) => some (nx, ls, .int x :: st, h)
  | _ => none
def o_ldL (i nx : Nat) : mS := fun _ ls st h => match ls[i]? with
  | some (.long x) => some (nx, ls, .long x :: st, h)
  | _ => none
def o_ldA (i nx : Nat) : mS := fun _ ls st h => match ls[i]? with
  | some (.ref x) => some (nx, ls, .ref x :: st, h)
  | some (.retAddr x) => some (nx, ls, .retAddr x :: st, h)
  | _ => none
def o_stI (i nx : Nat) : mS := fun _ ls st h => match st with
  | .int x :: r => if i < ls.length ∧ m_fr ls i = true then some (nx, ls.set i (.int x), r, h) else none
  | _ => none
def o_stL (i nx : Nat) : mS := fun _ ls st h => match st with
  | .long x :: r => if i + 1 < ls.length ∧ m_fr ls i = true then some (nx, (ls.set i (.long x)).set (i + 1) mJ, r, h) else none
  | _ => none
def o_stA (i nx : Nat) : mS := fun _ ls st h => match st with
  | .ref x :: r => if i < ls.length ∧ m_fr ls i = true then some (nx, ls.set i (.ref x), r, h) else none
  | .retAddr x :: r => if i < ls.length ∧ m_fr ls i = true then some (nx, ls.set i (.retAddr x), r, h) else none
  | _ => none
def o_inc (i : Nat) (n : Int32) (nx : Nat) : mS := fun _ ls st h => match ls[i]? with
  | some (.int x) => if m_fr ls i = true then some (nx, ls.set i (.int (x + n)), st, h) else none
  | _ => none
def o_un (g : Int32 → Int32) (nx : Nat) : mS := fun _ ls st h => match st with
  | .int x :: r => some (nx, ls, .int (g x) :: r, h)
  | _ => none
def o_bin (g : Int32 → Int32 → Int32) (nx : Nat) : mS := fun _ ls st h => match st with
  | .int y :: .int x :: r => some (nx, ls, .int (g x y) :: r, h)
  | _ => none
def o_div (nx : Nat) : mS := fun _ ls st h => match st with
  | .int y :: .int x :: r => if y = 0 then none else some (nx, ls, .int (x / y) :: r, h)
  | _ => none
def o_rem (nx : Nat) : mS := fun _ ls st h => match st with
  | .int y :: .int x :: r => if y = 0 then none else some (nx, ls, .int (x - x / y * y) :: r, h)
  | _ => none
def o_binL (g : Int64 → Int64 → Int64) (nx : Nat) : mS := fun _ ls st h => match st with
  | .long y :: .long x :: r => some (nx, ls, .long (g x y) :: r, h)
  | _ => none
def o_divL (nx : Nat) : mS := fun _ ls st h => match st with
  | .long y :: .long x :: r => if y = 0 then none else some (nx, ls, .long (x / y) :: r, h)
  | _ => none
def o_remL (nx : Nat) : mS := fun _ ls st h => match st with
  | .long y :: .long x :: r => if y = 0 then none else some (nx, ls, .long (x - x / y * y) :: r, h)
  | _ => none
def o_lcmp (nx : Nat) : mS := fun _ ls st h => match st with
  | .long y :: .long x :: r => some (nx, ls, .int (lg_cmp x y) :: r, h)
  | _ => none
def o_i2l (nx : Nat) : mS := fun _ ls st h => match st with
  | .int x :: r => some (nx, ls, .long x.toInt64 :: r, h)
  | _ => none
def o_l2i (nx : Nat) : mS := fun _ ls st h => match st with
  | .long x :: r => some (nx, ls, .int x.toInt32 :: r, h)
  | _ => none
def o_dup (nx : Nat) : mS := fun _ ls st h => match st with
  | v :: r => if v.category = 1 then some (nx, ls, v :: v :: r, h) else none
  | _ => none
def o_pop (nx : Nat) : mS := fun _ ls st h => match st with
  | v :: r => if v.category = 1 then some (nx, ls, r, h) else none
  | _ => none
def o_dup2 (nx : Nat) : mS := fun _ ls st h => match st with
  | v :: w :: r => if v.category = 1 ∧ w.category = 1 then some (nx, ls, v :: w :: v :: w :: r, h) else none
  | _ => none
def o_ifeq (tgt nx : Nat) : mS := fun _ ls st h => match st with
  | .int x :: r => if x = 0 then some (tgt, ls, r, h) else some (nx, ls, r, h)
  | _ => none
def o_ifne (tgt nx : Nat) : mS := fun _ ls st h => match st with
  | .int x :: r => if x = 0 then some (nx, ls, r, h) else some (tgt, ls, r, h)
  | _ => none
def o_iflt (tgt nx : Nat) : mS := fun _ ls st h => match st with
  | .int x :: r => if x < 0 then some (tgt, ls, r, h) else some (nx, ls, r, h)
  | _ => none
def o_ifge (tgt nx : Nat) : mS := fun _ ls st h => match st with
  | .int x :: r => if 0 ≤ x then some (tgt, ls, r, h) else some (nx, ls, r, h)
  | _ => none
def o_ifgt (tgt nx : Nat) : mS := fun _ ls st h => match st with
  | .int x :: r => if 0 < x then some (tgt, ls, r, h) else some (nx, ls, r, h)
  | _ => none
def o_ifle (tgt nx : Nat) : mS := fun _ ls st h => match st with
  | .int x :: r => if x ≤ 0 then some (tgt, ls, r, h) else some (nx, ls, r, h)
  | _ => none
def o_iceq (tgt nx : Nat) : mS := fun _ ls st h => match st with
  | .int y :: .int x :: r => if x = y then some (tgt, ls, r, h) else some (nx, ls, r, h)
  | _ => none
def o_icne (tgt nx : Nat) : mS := fun _ ls st h => match st with
  | .int y :: .int x :: r => if x = y then some (nx, ls, r, h) else some (tgt, ls, r, h)
  | _ => none
def o_iclt (tgt nx : Nat) : mS := fun _ ls st h => match st with
  | .int y :: .int x :: r => if x < y then some (tgt, ls, r, h) else some (nx, ls, r, h)
  | _ => none
def o_icge (tgt nx : Nat) : mS := fun _ ls st h => match st with
  | .int y :: .int x :: r => if y ≤ x then some (tgt, ls, r, h) else some (nx, ls, r, h)
  | _ => none
def o_icgt (tgt nx : Nat) : mS := fun _ ls st h => match st with
  | .int y :: .int x :: r => if y < x then some (tgt, ls, r, h) else some (nx, ls, r, h)
  | _ => none
def o_icle (tgt nx : Nat) : mS := fun _ ls st h => match st with
  | .int y :: .int x :: r => if x ≤ y then some (tgt, ls, r, h) else some (nx, ls, r, h)
  | _ => none
def o_goto (tgt : Nat) : mS := fun _ ls st h => some (tgt, ls, st, h)
def o_table (lo : Int) (tgts : List Nat) (dflt : Nat) : mS := fun _ ls st h => match st with
  | .int x :: r => if x.toInt < lo then some (dflt, ls, r, h) else some (tgts.getD (x.toInt - lo).toNat dflt, ls, r, h)
  | _ => none
def o_getf (ci k nx : Nat) : mS := fun _ ls st h => match st with
  | .ref a :: r => match h.1[a]? with
    | some (.inr (c, fs)) => if c = ci then match fs[k]? with
        | some v => some (nx, ls, v :: r, h)
        | none => none
      else none
    | _ => none
  | _ => none
def o_putI (ci k nx : Nat) : mS := fun _ ls st h => match st with
  | .int x :: .ref a :: r => match h.1[a]? with
    | some (.inr (c, fs)) => if c = ci ∧ k < fs.length then some (nx, ls, r, (h.1.set a (.inr (c, fs.set k (.int x))), h.2)) else none
    | _ => none
  | _ => none
def o_putZ (ci k nx : Nat) : mS := fun _ ls st h => match st with
  | .int x :: .ref a :: r => match h.1[a]? with
    | some (.inr (c, fs)) => if (c = ci ∧ k < fs.length) ∧ (x = 0 ∨ x = 1) then some (nx, ls, r, (h.1.set a (.inr (c, fs.set k (.int x))), h.2)) else none
    | _ => none
  | _ => none
def o_putA (ci k nx : Nat) : mS := fun _ ls st h => match st with
  | .ref x :: .ref a :: r => match h.1[a]? with
    | some (.inr (c, fs)) => if c = ci ∧ k < fs.length then some (nx, ls, r, (h.1.set a (.inr (c, fs.set k (.ref x))), h.2)) else none
    | _ => none
  | _ => none
/-- arrays of ints (0), bytes (1), longs (2) -/
def o_iald (nx : Nat) : mS := fun _ ls st h => match st with
  | .int i :: .ref a :: r => match h.1[a]? with
    | some (.inl (0, n, .inl f)) => if i < 0 ∨ n ≤ i.toNatClampNeg then none else some (nx, ls, .int (f i.toNatClampNeg) :: r, h)
    | _ => none
  | _ => none
def o_bald (nx : Nat) : mS := fun _ ls st h => match st with
  | .int i :: .ref a :: r => match h.1[a]? with
    | some (.inl (1, n, .inl f)) => if i < 0 ∨ n ≤ i.toNatClampNeg then none else some (nx, ls, .int (f i.toNatClampNeg) :: r, h)
    | _ => none
  | _ => none
def o_lald (nx : Nat) : mS := fun _ ls st h => match st with
  | .int i :: .ref a :: r => match h.1[a]? with
    | some (.inl (2, n, .inr (.inl f))) => if i < 0 ∨ n ≤ i.toNatClampNeg then none else some (nx, ls, .long (f i.toNatClampNeg) :: r, h)
    | _ => none
  | _ => none
def o_iast (nx : Nat) : mS := fun _ ls st h => match st with
  | .int x :: .int i :: .ref a :: r => match h.1[a]? with
    | some (.inl (0, n, .inl f)) => if i < 0 ∨ n ≤ i.toNatClampNeg then none else some (nx, ls, r, (h.1.set a (.inl (0, n, .inl (upd f i.toNatClampNeg x))), h.2))
    | _ => none
  | _ => none
def o_bast (nx : Nat) : mS := fun _ ls st h => match st with
  | .int x :: .int i :: .ref a :: r => match h.1[a]? with
    | some (.inl (1, n, .inl f)) => if i < 0 ∨ n ≤ i.toNatClampNeg then none else some (nx, ls, r, (h.1.set a (.inl (1, n, .inl (upd f i.toNatClampNeg x.toInt8.toInt32))), h.2))
    | _ => none
  | _ => none
def o_last (nx : Nat) : mS := fun _ ls st h => match st with
  | .long x :: .int i :: .ref a :: r => match h.1[a]? with
    | some (.inl (2, n, .inr (.inl f))) => if i < 0 ∨ n ≤ i.toNatClampNeg then none else some (nx, ls, r, (h.1.set a (.inl (2, n, .inr (.inl (vp_updL f i.toNatClampNeg x)))), h.2))
    | _ => none
  | _ => none
def o_alen (nx : Nat) : mS := fun _ ls st h => match st with
  | .ref a :: r => match h.1[a]? with
    | some (.inl (t, x)) => if t < 3 then some (nx, ls, .int (Int32.ofNat x.1) :: r, h) else none
    | _ => none
  | _ => none
/-- what was there before: read alone -/
def o_getO (k nx : Nat) : mS := fun O ls st h => match st with
  | .retAddr a :: r => match O a with
    | some (.inr (_, fs)) => match fs[k]? with
      | some v => some (nx, ls, v :: r, h)
      | none => none
    | _ => none
  | _ => none
def o_ialdO (nx : Nat) : mS := fun O ls st h => match st with
  | .int i :: .retAddr a :: r => match O a with
    | some (.inl (0, n, .inl f)) => if i < 0 ∨ n ≤ i.toNatClampNeg then none else some (nx, ls, .int (f i.toNatClampNeg) :: r, h)
    | _ => none
  | _ => none
def o_baldO (nx : Nat) : mS := fun O ls st h => match st with
  | .int i :: .retAddr a :: r => match O a with
    | some (.inl (1, n, .inl f)) => if i < 0 ∨ n ≤ i.toNatClampNeg then none else some (nx, ls, .int (f i.toNatClampNeg) :: r, h)
    | _ => none
  | _ => none
def o_laldO (nx : Nat) : mS := fun O ls st h => match st with
  | .int i :: .retAddr a :: r => match O a with
    | some (.inl (2, n, .inr (.inl f))) => if i < 0 ∨ n ≤ i.toNatClampNeg then none else some (nx, ls, .long (f i.toNatClampNeg) :: r, h)
    | _ => none
  | _ => none
def o_alenO (nx : Nat) : mS := fun O ls st h => match st with
  | .retAddr a :: r => match O a with
    | some (.inl (_, n, .inl _)) => some (nx, ls, .int (Int32.ofNat n) :: r, h)
    | some (.inl (_, n, .inr (.inl _))) => some (nx, ls, .int (Int32.ofNat n) :: r, h)
    | _ => none
  | _ => none
/-- makers: only before the first throw -/
def m_zero (t n : Nat) : mC := if t = 2 then .inl (2, n, .inr (.inl fun _ => 0)) else .inl (t, n, .inl fun _ => 0)
def o_newa (t nx : Nat) : mS := fun _ ls st h => match st with
  | .int n :: r => if (n < 0 ∨ 100000 < n.toNatClampNeg) ∨ h.2 ≠ 0 then none else some (nx, ls, .ref h.1.length :: r, (h.1 ++ [m_zero t n.toNatClampNeg], h.2))
  | _ => none
def o_new (ci : Nat) (fs : List Value) (nx : Nat) : mS := fun _ ls st h => if h.2 ≠ 0 then none else some (nx, ls, .ref h.1.length :: st, (h.1 ++ [.inr (ci, fs)], h.2))
def o_oinit (nx : Nat) : mS := fun _ ls st h => match st with
  | .ref _ :: r => if (r.map fun v => v.category).sum ≤ 8 then some (nx, ls, r, h) else none
  | _ => none
def o_copy (nx : Nat) : mS := fun _ ls st h => match st with
  | .int n :: .int dp :: .ref b :: .int sp :: .ref a :: r => match h.1[a]?, h.1[b]? with
    | some (.inl (0, n0, .inl f)), some (.inl (0, n1, .inl g)) =>
      if (sp < 0 ∨ dp < 0 ∨ n < 0) ∨ (n0 < sp.toNatClampNeg + n.toNatClampNeg ∨ n1 < dp.toNatClampNeg + n.toNatClampNeg) ∨ 8 < (r.map fun v => v.category).sum then none
      else some (nx, ls, r, (h.1.set b (.inl (0, n1, .inl (va_cpy f g sp.toNatClampNeg dp.toNatClampNeg n.toNatClampNeg))), h.2))
    | _, _ => none
  | _ => none
def o_mx (nx : Nat) : mS := fun _ ls st h => match st with
  | .int y :: .int x :: r => if (r.map fun v => v.category).sum ≤ 8 then some (nx, ls, .int (if x < y then y else x) :: r, h) else none
  | _ => none
def o_mn (nx : Nat) : mS := fun _ ls st h => match st with
  | .int y :: .int x :: r => if (r.map fun v => v.category).sum ≤ 8 then some (nx, ls, .int (if y < x then y else x) :: r, h) else none
  | _ => none
def o_mb (nx : Nat) : mS := fun _ ls st h => match st with
  | .int x :: r => if (r.map fun v => v.category).sum ≤ 8 then some (nx, ls, .int (if 0 ≤ x then x else 0 - x) :: r, h) else none
  | _ => none
def o_mxL (nx : Nat) : mS := fun _ ls st h => match st with
  | .long y :: .long x :: r => if (r.map fun v => v.category).sum ≤ 8 then some (nx, ls, .long (if y < x then x else y) :: r, h) else none
  | _ => none
