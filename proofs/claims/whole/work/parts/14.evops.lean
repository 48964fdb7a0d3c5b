/-! The equations of ev, an op a row; ways to the cells -/
def m_gf (h : mH) (a ci k : Nat) : Option Value := match h.1[a]? with
  | some (.inr (c, fs)) => if c = ci then fs[k]? else none
  | _ => none
def m_gO (O : mO) (a k : Nat) : Option Value := match O a with
  | some (.inr (_, fs)) => fs[k]?
  | _ => none
def m_pf (h : mH) (a ci k : Nat) (v : Value) : Option mH := match h.1[a]? with
  | some (.inr (c, fs)) => if c = ci ∧ k < fs.length then some (h.1.set a (.inr (c, fs.set k v)), h.2) else none
  | _ => none
def m_ai (h : mH) (a : Nat) (i : Int32) : Option Int32 := match h.1[a]? with
  | some (.inl (0, n, .inl f)) => if i < 0 ∨ n ≤ i.toNatClampNeg then none else some (f i.toNatClampNeg)
  | _ => none
def m_ab (h : mH) (a : Nat) (i : Int32) : Option Int32 := match h.1[a]? with
  | some (.inl (1, n, .inl f)) => if i < 0 ∨ n ≤ i.toNatClampNeg then none else some (f i.toNatClampNeg)
  | _ => none
def m_al (h : mH) (a : Nat) (i : Int32) : Option Int64 := match h.1[a]? with
  | some (.inl (2, n, .inr (.inl f))) => if i < 0 ∨ n ≤ i.toNatClampNeg then none else some (f i.toNatClampNeg)
  | _ => none
def m_aiO (O : mO) (a : Nat) (i : Int32) : Option Int32 := match O a with
  | some (.inl (0, n, .inl f)) => if i < 0 ∨ n ≤ i.toNatClampNeg then none else some (f i.toNatClampNeg)
  | _ => none
def m_abO (O : mO) (a : Nat) (i : Int32) : Option Int32 := match O a with
  | some (.inl (1, n, .inl f)) => if i < 0 ∨ n ≤ i.toNatClampNeg then none else some (f i.toNatClampNeg)
  | _ => none
def m_alO (O : mO) (a : Nat) (i : Int32) : Option Int64 := match O a with
  | some (.inl (2, n, .inr (.inl f))) => if i < 0 ∨ n ≤ i.toNatClampNeg then none else some (f i.toNatClampNeg)
  | _ => none
def m_si (h : mH) (a : Nat) (i x : Int32) : Option mH := match h.1[a]? with
  | some (.inl (0, n, .inl f)) => if i < 0 ∨ n ≤ i.toNatClampNeg then none else some (h.1.set a (.inl (0, n, .inl (upd f i.toNatClampNeg x))), h.2)
  | _ => none
def m_sb (h : mH) (a : Nat) (i x : Int32) : Option mH := match h.1[a]? with
  | some (.inl (1, n, .inl f)) => if i < 0 ∨ n ≤ i.toNatClampNeg then none else some (h.1.set a (.inl (1, n, .inl (upd f i.toNatClampNeg x.toInt8.toInt32))), h.2)
  | _ => none
def m_sl (h : mH) (a : Nat) (i : Int32) (x : Int64) : Option mH := match h.1[a]? with
  | some (.inl (2, n, .inr (.inl f))) => if i < 0 ∨ n ≤ i.toNatClampNeg then none else some (h.1.set a (.inl (2, n, .inr (.inl (vp_updL f i.toNatClampNeg x)))), h.2)
  | _ => none
def m_ln (h : mH) (a : Nat) : Option Int32 := match h.1[a]? with
  | some (.inl (t, x)) => if t < 3 then some (Int32.ofNat x.1) else none
  | _ => none
def m_lnO (O : mO) (a : Nat) : Option Int32 := match O a with
  | some (.inl (_, n, .inl _)) => some (Int32.ofNat n)
  | some (.inl (_, n, .inr (.inl _))) => some (Int32.ofNat n)
  | _ => none
def m_na (h : mH) (t : Nat) (n : Int32) : Option (Nat × mH) := if (n < 0 ∨ 100000 < n.toNatClampNeg) ∨ h.2 ≠ 0 then none else some (h.1.length, (h.1 ++ [m_zero t n.toNatClampNeg], h.2))
def m_no (h : mH) (ci : Nat) (fs : List Value) : Option (Nat × mH) := if h.2 ≠ 0 then none else some (h.1.length, (h.1 ++ [.inr (ci, fs)], h.2))
def m_cp (h : mH) (a : Nat) (p : Int32) (b : Nat) (q n : Int32) : Option mH := match h.1[a]?, h.1[b]? with
  | some (.inl (0, n0, .inl f)), some (.inl (0, n1, .inl g)) =>
    if (p < 0 ∨ q < 0 ∨ n < 0) ∨ (n0 < p.toNatClampNeg + n.toNatClampNeg ∨ n1 < q.toNatClampNeg + n.toNatClampNeg) then none
    else some (h.1.set b (.inl (0, n1, .inl (va_cpy f g p.toNatClampNeg q.toNatClampNeg n.toNatClampNeg))), h.2)
  | _, _ => none
def m_isc (h : mH) (a j : Nat) : Bool := match h.1[a]? with
  | some (.inr (c, _)) => c == j
  | _ => false
def m_isO (O : mO) (a : Nat) : Bool := match O a with
  | some (.inr _) => true
  | _ => false
def m_kt (f : Option Value → mH → Option mR) (r : mR) : Option mR := match r.1 with
  | .inl v => f v r.2
  | .inr e => some (.inr e, r.2)
def m_kn (f : Option Value → mH → Option mR) (r : mR) : Option mR := match r.1 with
  | .inl v => f v r.2
  | .inr _ => none
def m_kh (hs : List (Nat × Nat × Nat)) (ls : List Value) (f : Option Value → mH → Option mR) (g : Nat → List Value → mH → Option mR) (r : mR) : Option mR := match r.1 with
  | .inl v => f v r.2
  | .inr e => match m_find hs e with
    | none => none
    | some (p, j) => if j < ls.length ∧ m_fr ls j = true then g p (ls.set j mJ) r.2 else none
def m_pre (k na : Nat) (st : List Value) : Bool := decide (na ≤ st.length) && decide ((m_args (st.take na).reverse).length ≤ m_ML k) && decide (((st.drop na).map fun v => v.category).sum ≤ 8)
section EvOps
variable {O : mO} {d y pc nx : Nat} {ls st : List Value} {h : mH}
theorem ev_push {v : Value} (hp : m_P y pc = some (.inl (o_push v nx))) : ev O d y pc ls st h = ev O d y nx ls (v :: st) h := by simp only [ev, m_ev_step hp, o_push, Option.bind_some]
theorem ev_gst {v : Value} (hp : m_P y pc = some (.inl (o_gst v nx))) : ev O d y pc ls st h = ev O d y nx ls (m_sv O v :: st) h := by simp only [ev, m_ev_step hp, o_gst, Option.bind_some]
theorem ev_goto (hp : m_P y pc = some (.inl (o_goto nx))) : ev O d y pc ls st h = ev O d y nx ls st h := by simp only [ev, m_ev_step hp, o_goto, Option.bind_some]
theorem ev_ldI {i : Nat} {x : Int32} (hp : m_P y pc = some (.inl (o_ldI i nx))) (hl : ls[i]? = some (.int x)) : ev O d y pc ls st h = ev O d y nx ls (.int x :: st) h := by simp only [ev, m_ev_step hp, o_ldI, hl, Option.bind_some]
theorem ev_ldL {i : Nat} {x : Int64} (hp : m_P y pc = some (.inl (o_ldL i nx))) (hl : ls[i]? = some (.long x)) : ev O d y pc ls st h = ev O d y nx ls (.long x :: st) h := by simp only [ev, m_ev_step hp, o_ldL, hl, Option.bind_some]
theorem ev_ldA {i x : Nat} (hp : m_P y pc = some (.inl (o_ldA i nx))) (hl : ls[i]? = some (.ref x)) : ev O d y pc ls st h = ev O d y nx ls (.ref x :: st) h := by simp only [ev, m_ev_step hp, o_ldA, hl, Option.bind_some]
theorem ev_ldAO {i x : Nat} (hp : m_P y pc = some (.inl (o_ldA i nx))) (hl : ls[i]? = some (.retAddr x)) : ev O d y pc ls st h = ev O d y nx ls (.retAddr x :: st) h := by simp only [ev, m_ev_step hp, o_ldA, hl, Option.bind_some]
theorem ev_stI {i : Nat} {x : Int32} (hp : m_P y pc = some (.inl (o_stI i nx))) (h1 : i < ls.length) (h2 : m_fr ls i = true) : ev O d y pc ls (.int x :: st) h = ev O d y nx (ls.set i (.int x)) st h := by simp only [ev, m_ev_step hp, o_stI, if_pos (And.intro h1 h2), Option.bind_some]
theorem ev_stL {i : Nat} {x : Int64} (hp : m_P y pc = some (.inl (o_stL i nx))) (h1 : i + 1 < ls.length) (h2 : m_fr ls i = true) : ev O d y pc ls (.long x :: st) h = ev O d y nx ((ls.set i (.long x)).set (i + 1) mJ) st h := by simp only [ev, m_ev_step hp, o_stL, if_pos (And.intro h1 h2), Option.bind_some]
theorem ev_stA {i x : Nat} (hp : m_P y pc = some (.inl (o_stA i nx))) (h1 : i < ls.length) (h2 : m_fr ls i = true) : ev O d y pc ls (.ref x :: st) h = ev O d y nx (ls.set i (.ref x)) st h := by simp only [ev, m_ev_step hp, o_stA, if_pos (And.intro h1 h2), Option.bind_some]
theorem ev_stAO {i x : Nat} (hp : m_P y pc = some (.inl (o_stA i nx))) (h1 : i < ls.length) (h2 : m_fr ls i = true) : ev O d y pc ls (.retAddr x :: st) h = ev O d y nx (ls.set i (.retAddr x)) st h := by simp only [ev, m_ev_step hp, o_stA, if_pos (And.intro h1 h2), Option.bind_some]
theorem ev_inc {i : Nat} {n x : Int32} (hp : m_P y pc = some (.inl (o_inc i n nx))) (hl : ls[i]? = some (.int x)) (h2 : m_fr ls i = true) : ev O d y pc ls st h = ev O d y nx (ls.set i (.int (x + n))) st h := by simp only [ev, m_ev_step hp, o_inc, hl, if_pos h2, Option.bind_some]
theorem ev_un {g : Int32 → Int32} {x : Int32} (hp : m_P y pc = some (.inl (o_un g nx))) : ev O d y pc ls (.int x :: st) h = ev O d y nx ls (.int (g x) :: st) h := by simp only [ev, m_ev_step hp, o_un, Option.bind_some]
theorem ev_bin {g : Int32 → Int32 → Int32} {x z : Int32} (hp : m_P y pc = some (.inl (o_bin g nx))) : ev O d y pc ls (.int z :: .int x :: st) h = ev O d y nx ls (.int (g x z) :: st) h := by simp only [ev, m_ev_step hp, o_bin, Option.bind_some]
theorem ev_binL {g : Int64 → Int64 → Int64} {x z : Int64} (hp : m_P y pc = some (.inl (o_binL g nx))) : ev O d y pc ls (.long z :: .long x :: st) h = ev O d y nx ls (.long (g x z) :: st) h := by simp only [ev, m_ev_step hp, o_binL, Option.bind_some]
theorem ev_idiv {x z : Int32} (hp : m_P y pc = some (.inl (o_div nx))) : ev O d y pc ls (.int z :: .int x :: st) h = if z = 0 then none else ev O d y nx ls (.int (x / z) :: st) h := by
  simp only [ev, m_ev_step hp, o_div]; split <;> rfl
theorem ev_irem {x z : Int32} (hp : m_P y pc = some (.inl (o_rem nx))) : ev O d y pc ls (.int z :: .int x :: st) h = if z = 0 then none else ev O d y nx ls (.int (x - x / z * z) :: st) h := by
  simp only [ev, m_ev_step hp, o_rem]; split <;> rfl
theorem ev_ldiv {x z : Int64} (hp : m_P y pc = some (.inl (o_divL nx))) : ev O d y pc ls (.long z :: .long x :: st) h = if z = 0 then none else ev O d y nx ls (.long (x / z) :: st) h := by
  simp only [ev, m_ev_step hp, o_divL]; split <;> rfl
theorem ev_lrem {x z : Int64} (hp : m_P y pc = some (.inl (o_remL nx))) : ev O d y pc ls (.long z :: .long x :: st) h = if z = 0 then none else ev O d y nx ls (.long (x - x / z * z) :: st) h := by
  simp only [ev, m_ev_step hp, o_remL]; split <;> rfl
theorem ev_lcmp {x z : Int64} (hp : m_P y pc = some (.inl (o_lcmp nx))) : ev O d y pc ls (.long z :: .long x :: st) h = ev O d y nx ls (.int (lg_cmp x z) :: st) h := by simp only [ev, m_ev_step hp, o_lcmp, Option.bind_some]
theorem ev_i2l {x : Int32} (hp : m_P y pc = some (.inl (o_i2l nx))) : ev O d y pc ls (.int x :: st) h = ev O d y nx ls (.long x.toInt64 :: st) h := by simp only [ev, m_ev_step hp, o_i2l, Option.bind_some]
theorem ev_l2i {x : Int64} (hp : m_P y pc = some (.inl (o_l2i nx))) : ev O d y pc ls (.long x :: st) h = ev O d y nx ls (.int x.toInt32 :: st) h := by simp only [ev, m_ev_step hp, o_l2i, Option.bind_some]
theorem ev_dup {v : Value} (hp : m_P y pc = some (.inl (o_dup nx))) (hc : v.category = 1) : ev O d y pc ls (v :: st) h = ev O d y nx ls (v :: v :: st) h := by simp only [ev, m_ev_step hp, o_dup, if_pos hc, Option.bind_some]
theorem ev_pop {v : Value} (hp : m_P y pc = some (.inl (o_pop nx))) (hc : v.category = 1) : ev O d y pc ls (v :: st) h = ev O d y nx ls st h := by simp only [ev, m_ev_step hp, o_pop, if_pos hc, Option.bind_some]
theorem ev_dup2 {v u : Value} (hp : m_P y pc = some (.inl (o_dup2 nx))) (hc : v.category = 1) (hu : u.category = 1) : ev O d y pc ls (v :: u :: st) h = ev O d y nx ls (v :: u :: v :: u :: st) h := by simp only [ev, m_ev_step hp, o_dup2, if_pos (And.intro hc hu), Option.bind_some]
theorem ev_ifeq {tgt : Nat} {x : Int32} (hp : m_P y pc = some (.inl (o_ifeq tgt nx))) : ev O d y pc ls (.int x :: st) h = if x = 0 then ev O d y tgt ls st h else ev O d y nx ls st h := by
  simp only [ev, m_ev_step hp, o_ifeq]; split <;> rfl
theorem ev_ifne {tgt : Nat} {x : Int32} (hp : m_P y pc = some (.inl (o_ifne tgt nx))) : ev O d y pc ls (.int x :: st) h = if x = 0 then ev O d y nx ls st h else ev O d y tgt ls st h := by
  simp only [ev, m_ev_step hp, o_ifne]; split <;> rfl
theorem ev_iflt {tgt : Nat} {x : Int32} (hp : m_P y pc = some (.inl (o_iflt tgt nx))) : ev O d y pc ls (.int x :: st) h = if x < 0 then ev O d y tgt ls st h else ev O d y nx ls st h := by
  simp only [ev, m_ev_step hp, o_iflt]; split <;> rfl
theorem ev_ifge {tgt : Nat} {x : Int32} (hp : m_P y pc = some (.inl (o_ifge tgt nx))) : ev O d y pc ls (.int x :: st) h = if 0 ≤ x then ev O d y tgt ls st h else ev O d y nx ls st h := by
  simp only [ev, m_ev_step hp, o_ifge]; split <;> rfl
theorem ev_ifgt {tgt : Nat} {x : Int32} (hp : m_P y pc = some (.inl (o_ifgt tgt nx))) : ev O d y pc ls (.int x :: st) h = if 0 < x then ev O d y tgt ls st h else ev O d y nx ls st h := by
  simp only [ev, m_ev_step hp, o_ifgt]; split <;> rfl
theorem ev_ifle {tgt : Nat} {x : Int32} (hp : m_P y pc = some (.inl (o_ifle tgt nx))) : ev O d y pc ls (.int x :: st) h = if x ≤ 0 then ev O d y tgt ls st h else ev O d y nx ls st h := by
  simp only [ev, m_ev_step hp, o_ifle]; split <;> rfl
theorem ev_iceq {tgt : Nat} {x z : Int32} (hp : m_P y pc = some (.inl (o_iceq tgt nx))) : ev O d y pc ls (.int z :: .int x :: st) h = if x = z then ev O d y tgt ls st h else ev O d y nx ls st h := by
  simp only [ev, m_ev_step hp, o_iceq]; split <;> rfl
theorem ev_icne {tgt : Nat} {x z : Int32} (hp : m_P y pc = some (.inl (o_icne tgt nx))) : ev O d y pc ls (.int z :: .int x :: st) h = if x = z then ev O d y nx ls st h else ev O d y tgt ls st h := by
  simp only [ev, m_ev_step hp, o_icne]; split <;> rfl
theorem ev_iclt {tgt : Nat} {x z : Int32} (hp : m_P y pc = some (.inl (o_iclt tgt nx))) : ev O d y pc ls (.int z :: .int x :: st) h = if x < z then ev O d y tgt ls st h else ev O d y nx ls st h := by
  simp only [ev, m_ev_step hp, o_iclt]; split <;> rfl
theorem ev_icge {tgt : Nat} {x z : Int32} (hp : m_P y pc = some (.inl (o_icge tgt nx))) : ev O d y pc ls (.int z :: .int x :: st) h = if z ≤ x then ev O d y tgt ls st h else ev O d y nx ls st h := by
  simp only [ev, m_ev_step hp, o_icge]; split <;> rfl
theorem ev_icgt {tgt : Nat} {x z : Int32} (hp : m_P y pc = some (.inl (o_icgt tgt nx))) : ev O d y pc ls (.int z :: .int x :: st) h = if z < x then ev O d y tgt ls st h else ev O d y nx ls st h := by
  simp only [ev, m_ev_step hp, o_icgt]; split <;> rfl
theorem ev_icle {tgt : Nat} {x z : Int32} (hp : m_P y pc = some (.inl (o_icle tgt nx))) : ev O d y pc ls (.int z :: .int x :: st) h = if x ≤ z then ev O d y tgt ls st h else ev O d y nx ls st h := by
  simp only [ev, m_ev_step hp, o_icle]; split <;> rfl
theorem ev_table {lo : Int} {tgts : List Nat} {td : Nat} {x : Int32} (hp : m_P y pc = some (.inl (o_table lo tgts td))) : ev O d y pc ls (.int x :: st) h = if x.toInt < lo then ev O d y td ls st h else ev O d y (tgts.getD (x.toInt - lo).toNat td) ls st h := by
  simp only [ev, m_ev_step hp, o_table]; split <;> rfl
theorem ev_getf {ci k a : Nat} (hp : m_P y pc = some (.inl (o_getf ci k nx))) : ev O d y pc ls (.ref a :: st) h = (m_gf h a ci k).bind fun v => ev O d y nx ls (v :: st) h := by
  simp only [ev, m_ev_step hp, o_getf, m_gf]
  generalize h.1[a]? = z
  rcases z with _ | (⟨t, x⟩ | ⟨c, fs⟩)
  · rfl
  · rfl
  · by_cases hcc : c = ci
    · simp only [hcc, if_true]
      cases fs[k]? <;> rfl
    · simp only [hcc, if_false]
      rfl
theorem ev_getO {k a : Nat} (hp : m_P y pc = some (.inl (o_getO k nx))) : ev O d y pc ls (.retAddr a :: st) h = (m_gO O a k).bind fun v => ev O d y nx ls (v :: st) h := by
  simp only [ev, m_ev_step hp, o_getO, m_gO]
  generalize O a = z
  rcases z with _ | (⟨t, x⟩ | ⟨c, fs⟩)
  · rfl
  · rfl
  · simp only
    cases fs[k]? <;> rfl
theorem ev_putI {ci k a : Nat} {x : Int32} (hp : m_P y pc = some (.inl (o_putI ci k nx))) : ev O d y pc ls (.int x :: .ref a :: st) h = (m_pf h a ci k (.int x)).bind fun h => ev O d y nx ls st h := by
  simp only [ev, m_ev_step hp, o_putI, m_pf]
  generalize h.1[a]? = z
  rcases z with _ | (⟨t, x⟩ | ⟨c, fs⟩)
  · rfl
  · rfl
  · simp only
    split <;> rfl
theorem ev_putA {ci k a : Nat} {x : Nat} (hp : m_P y pc = some (.inl (o_putA ci k nx))) : ev O d y pc ls (.ref x :: .ref a :: st) h = (m_pf h a ci k (.ref x)).bind fun h => ev O d y nx ls st h := by
  simp only [ev, m_ev_step hp, o_putA, m_pf]
  generalize h.1[a]? = z
  rcases z with _ | (⟨t, x⟩ | ⟨c, fs⟩)
  · rfl
  · rfl
  · simp only
    split <;> rfl
theorem ev_putZ {ci k a : Nat} {x : Int32} (hp : m_P y pc = some (.inl (o_putZ ci k nx))) : ev O d y pc ls (.int x :: .ref a :: st) h = if x = 0 ∨ x = 1 then (m_pf h a ci k (.int x)).bind fun h => ev O d y nx ls st h else none := by
  simp only [ev, m_ev_step hp, o_putZ, m_pf]
  generalize h.1[a]? = z
  by_cases hx : x = 0 ∨ x = 1
  · rcases z with _ | (⟨t, q⟩ | ⟨c, fs⟩)
    · simp only [hx, if_true]; rfl
    · simp only [hx, if_true]; rfl
    · simp only [hx, and_true, if_true]
      split <;> rfl
  · rcases z with _ | (⟨t, q⟩ | ⟨c, fs⟩)
    · simp only [hx, if_false]; rfl
    · simp only [hx, if_false]; rfl
    · simp only [hx, and_false, if_false]
      rfl
theorem ev_iald {a : Nat} {i : Int32} (hp : m_P y pc = some (.inl (o_iald nx))) : ev O d y pc ls (.int i :: .ref a :: st) h = (m_ai h a i).bind fun x => ev O d y nx ls (.int x :: st) h := by
  simp only [ev, m_ev_step hp, o_iald, m_ai]
  generalize h.1[a]? = z
  rcases z with _ | (⟨_ | t, n, f | f⟩ | ⟨c, fs⟩)
  all_goals first | rfl | (simp only; split <;> rfl)
theorem ev_ialdO {a : Nat} {i : Int32} (hp : m_P y pc = some (.inl (o_ialdO nx))) : ev O d y pc ls (.int i :: .retAddr a :: st) h = (m_aiO O a i).bind fun x => ev O d y nx ls (.int x :: st) h := by
  simp only [ev, m_ev_step hp, o_ialdO, m_aiO]
  generalize O a = z
  rcases z with _ | (⟨_ | t, n, f | f⟩ | ⟨c, fs⟩)
  all_goals first | rfl | (simp only; split <;> rfl)
theorem ev_bald {a : Nat} {i : Int32} (hp : m_P y pc = some (.inl (o_bald nx))) : ev O d y pc ls (.int i :: .ref a :: st) h = (m_ab h a i).bind fun x => ev O d y nx ls (.int x :: st) h := by
  simp only [ev, m_ev_step hp, o_bald, m_ab]
  generalize h.1[a]? = z
  rcases z with _ | (⟨_ | _ | t, n, f | f⟩ | ⟨c, fs⟩)
  all_goals first | rfl | (simp only; split <;> rfl)
theorem ev_baldO {a : Nat} {i : Int32} (hp : m_P y pc = some (.inl (o_baldO nx))) : ev O d y pc ls (.int i :: .retAddr a :: st) h = (m_abO O a i).bind fun x => ev O d y nx ls (.int x :: st) h := by
  simp only [ev, m_ev_step hp, o_baldO, m_abO]
  generalize O a = z
  rcases z with _ | (⟨_ | _ | t, n, f | f⟩ | ⟨c, fs⟩)
  all_goals first | rfl | (simp only; split <;> rfl)
theorem ev_lald {a : Nat} {i : Int32} (hp : m_P y pc = some (.inl (o_lald nx))) : ev O d y pc ls (.int i :: .ref a :: st) h = (m_al h a i).bind fun x => ev O d y nx ls (.long x :: st) h := by
  simp only [ev, m_ev_step hp, o_lald, m_al]
  generalize h.1[a]? = z
  rcases z with _ | (⟨_ | _ | _ | t, n, f | f | f⟩ | ⟨c, fs⟩)
  all_goals first | rfl | (simp only; split <;> rfl)
theorem ev_laldO {a : Nat} {i : Int32} (hp : m_P y pc = some (.inl (o_laldO nx))) : ev O d y pc ls (.int i :: .retAddr a :: st) h = (m_alO O a i).bind fun x => ev O d y nx ls (.long x :: st) h := by
  simp only [ev, m_ev_step hp, o_laldO, m_alO]
  generalize O a = z
  rcases z with _ | (⟨_ | _ | _ | t, n, f | f | f⟩ | ⟨c, fs⟩)
  all_goals first | rfl | (simp only; split <;> rfl)
theorem ev_iast {a : Nat} {i : Int32} {x : Int32} (hp : m_P y pc = some (.inl (o_iast nx))) : ev O d y pc ls (.int x :: .int i :: .ref a :: st) h = (m_si h a i x).bind fun h => ev O d y nx ls st h := by
  simp only [ev, m_ev_step hp, o_iast, m_si]
  generalize h.1[a]? = z
  rcases z with _ | (⟨_ | t, n, f | f⟩ | ⟨c, fs⟩)
  all_goals first | rfl | (simp only; split <;> rfl)
theorem ev_bast {a : Nat} {i : Int32} {x : Int32} (hp : m_P y pc = some (.inl (o_bast nx))) : ev O d y pc ls (.int x :: .int i :: .ref a :: st) h = (m_sb h a i x).bind fun h => ev O d y nx ls st h := by
  simp only [ev, m_ev_step hp, o_bast, m_sb]
  generalize h.1[a]? = z
  rcases z with _ | (⟨_ | _ | t, n, f | f⟩ | ⟨c, fs⟩)
  all_goals first | rfl | (simp only; split <;> rfl)
theorem ev_last {a : Nat} {i : Int32} {x : Int64} (hp : m_P y pc = some (.inl (o_last nx))) : ev O d y pc ls (.long x :: .int i :: .ref a :: st) h = (m_sl h a i x).bind fun h => ev O d y nx ls st h := by
  simp only [ev, m_ev_step hp, o_last, m_sl]
  generalize h.1[a]? = z
  rcases z with _ | (⟨_ | _ | _ | t, n, f | f | f⟩ | ⟨c, fs⟩)
  all_goals first | rfl | (simp only; split <;> rfl)
theorem ev_alen {a : Nat} (hp : m_P y pc = some (.inl (o_alen nx))) : ev O d y pc ls (.ref a :: st) h = (m_ln h a).bind fun x => ev O d y nx ls (.int x :: st) h := by
  simp only [ev, m_ev_step hp, o_alen, m_ln]
  generalize h.1[a]? = z
  rcases z with _ | (⟨t, x⟩ | ⟨c, fs⟩)
  all_goals first | rfl | (simp only; split <;> rfl)
theorem ev_alenO {a : Nat} (hp : m_P y pc = some (.inl (o_alenO nx))) : ev O d y pc ls (.retAddr a :: st) h = (m_lnO O a).bind fun x => ev O d y nx ls (.int x :: st) h := by
  simp only [ev, m_ev_step hp, o_alenO, m_lnO]
  generalize O a = z
  rcases z with _ | (⟨t, n, f | f | f⟩ | ⟨c, fs⟩)
  all_goals rfl
theorem ev_newa {t : Nat} {n : Int32} (hp : m_P y pc = some (.inl (o_newa t nx))) : ev O d y pc ls (.int n :: st) h = (m_na h t n).bind fun q => ev O d y nx ls (.ref q.1 :: st) q.2 := by
  simp only [ev, m_ev_step hp, o_newa, m_na]; split <;> rfl
theorem ev_new {ci : Nat} {fs : List Value} (hp : m_P y pc = some (.inl (o_new ci fs nx))) : ev O d y pc ls st h = (m_no h ci fs).bind fun q => ev O d y nx ls (.ref q.1 :: st) q.2 := by
  simp only [ev, m_ev_step hp, o_new, m_no]; split <;> rfl
theorem ev_oinit {a : Nat} (hp : m_P y pc = some (.inl (o_oinit nx))) (hs : (st.map fun v => v.category).sum ≤ 8) : ev O d y pc ls (.ref a :: st) h = ev O d y nx ls st h := by simp only [ev, m_ev_step hp, o_oinit, if_pos hs, Option.bind_some]
theorem ev_copy {a b : Nat} {n p q : Int32} (hp : m_P y pc = some (.inl (o_copy nx))) (hs : (st.map fun v => v.category).sum ≤ 8) : ev O d y pc ls (.int n :: .int q :: .ref b :: .int p :: .ref a :: st) h = (m_cp h a p b q n).bind fun h => ev O d y nx ls st h := by
  have h8 : ¬ 8 < (st.map fun v => v.category).sum := by omega
  simp only [ev, m_ev_step hp, o_copy, m_cp, h8, or_false]
  generalize h.1[a]? = z
  generalize h.1[b]? = z2
  rcases z with _ | (⟨_ | t, n, f | f⟩ | ⟨c, fs⟩) <;> rcases z2 with _ | (⟨_ | t, n, f | f⟩ | ⟨c, fs⟩)
  all_goals first | rfl | (simp only; split <;> rfl)
theorem ev_mx {x z : Int32} (hp : m_P y pc = some (.inl (o_mx nx))) (hs : (st.map fun v => v.category).sum ≤ 8) : ev O d y pc ls (.int z :: .int x :: st) h = ev O d y nx ls (.int (if x < z then z else x) :: st) h := by simp only [ev, m_ev_step hp, o_mx, if_pos hs, Option.bind_some]
theorem ev_mn {x z : Int32} (hp : m_P y pc = some (.inl (o_mn nx))) (hs : (st.map fun v => v.category).sum ≤ 8) : ev O d y pc ls (.int z :: .int x :: st) h = ev O d y nx ls (.int (if z < x then z else x) :: st) h := by simp only [ev, m_ev_step hp, o_mn, if_pos hs, Option.bind_some]
theorem ev_mb {x : Int32} (hp : m_P y pc = some (.inl (o_mb nx))) (hs : (st.map fun v => v.category).sum ≤ 8) : ev O d y pc ls (.int x :: st) h = ev O d y nx ls (.int (if 0 ≤ x then x else 0 - x) :: st) h := by simp only [ev, m_ev_step hp, o_mb, if_pos hs, Option.bind_some]
theorem ev_mxL {x z : Int64} (hp : m_P y pc = some (.inl (o_mxL nx))) (hs : (st.map fun v => v.category).sum ≤ 8) : ev O d y pc ls (.long z :: .long x :: st) h = ev O d y nx ls (.long (if z < x then x else z) :: st) h := by simp only [ev, m_ev_step hp, o_mxL, if_pos hs, Option.bind_some]
theorem ev_ret {k : Nat} {v : Option Value} (hp : m_P y pc = some (.inr (.inr (.inl k)))) (hm : m_ret k st = some v) : ev O d y pc ls st h = some (.inl v, h) := by simp only [ev, m_ev_ret hp, hm, Option.map_some]
theorem ev_retZ {x : Int32} (hp : m_P y pc = some (.inr (.inr (.inl 2)))) : ev O d y pc ls [.int x] h = if x = 0 ∨ x = 1 then some (.inl (some (.int x)), h) else none := by
  simp only [ev, m_ev_ret hp, m_ret]; split <;> rfl
theorem ev_retB {x : Int32} (hp : m_P y pc = some (.inr (.inr (.inl 5)))) : ev O d y pc ls [.int x] h = if x.toInt8.toInt32 = x then some (.inl (some (.int x)), h) else none := by
  simp only [ev, m_ev_ret hp, m_ret]; split <;> rfl
theorem ev_retC {x : Int32} (hp : m_P y pc = some (.inr (.inr (.inl 6)))) : ev O d y pc ls [.int x] h = if x.toUInt32.toUInt16.toUInt32.toInt32 = x then some (.inl (some (.int x)), h) else none := by
  simp only [ev, m_ev_ret hp, m_ret]; split <;> rfl
theorem ev_throw {e : Nat} (hp : m_P y pc = some (.inr (.inr (.inr e)))) (hs : (st.map fun v => v.category).sum ≤ 8) : ev O d y pc ls st h = some (.inr e, (h.1, h.2 + 1)) := by simp only [ev, m_ev_throw hp, if_pos hs]
theorem m_pre_ok {k na rc : Nat} (h1 : m_pre k na st = true) : m_ok O (m_ML k) na rc st h = m_rc O h rc st[na - 1]? := by
  simp only [m_pre, Bool.and_eq_true] at h1
  obtain ⟨⟨a, b⟩, c⟩ := h1
  simp only [m_ok, a, b, c, Bool.true_and]
theorem ev_callS {k na : Nat} (hp : m_P y pc = some (.inr (.inl (k, na, 0, [])))) (h1 : m_pre k na st = true) : ev O (d + 1) y pc ls st h = (ev O d k 0 (m_ent (m_ML k) (st.take na).reverse) [] h).bind (m_kt fun v h => ev O (d + 1) y (pc + 3) ls (v.toList ++ st.drop na) h) := by
  simp only [ev, m_ev_call hp, m_pre_ok h1, m_rc, if_true]
  congr 1
theorem ev_callV {k na j a : Nat} (hp : m_P y pc = some (.inr (.inl (k, na, j + 1, [])))) (h1 : m_pre k na st = true) (hv : st[na - 1]? = some (.ref a)) (hj : j < 2000) : ev O (d + 1) y pc ls st h = if m_isc h a j = true then (ev O d k 0 (m_ent (m_ML k) (st.take na).reverse) [] h).bind (m_kt fun v h => ev O (d + 1) y (pc + 3) ls (v.toList ++ st.drop na) h) else none := by
  have e : m_rc O h (j + 1) (some (.ref a)) = m_isc h a j := by simp only [m_rc, m_isc, Nat.mod_eq_of_lt hj]; rfl
  have n2 : ¬ 2000 < j + 1 := by omega
  simp only [ev, m_ev_call hp, m_pre_ok h1, hv, e, if_neg n2]
  rfl
theorem ev_callO {k na a : Nat} (hp : m_P y pc = some (.inr (.inl (k, na, 1000, [])))) (h1 : m_pre k na st = true) (hv : st[na - 1]? = some (.retAddr a)) : ev O (d + 1) y pc ls st h = if m_isO O a = true then (ev O d k 0 (m_ent (m_ML k) (st.take na).reverse) [] h).bind (m_kt fun v h => ev O (d + 1) y (pc + 3) ls (v.toList ++ st.drop na) h) else none := by
  have e : m_rc O h 1000 (some (.retAddr a)) = m_isO O a := by simp only [m_rc, m_isO]; rfl
  have n2 : ¬ 2000 < 1000 := by omega
  simp only [ev, m_ev_call hp, m_pre_ok h1, hv, e, if_neg n2]
  rfl
theorem ev_callI {k na j a : Nat} (hp : m_P y pc = some (.inr (.inl (k, na, j + 2001, [])))) (h1 : m_pre k na st = true) (hv : st[na - 1]? = some (.ref a)) (hj : j < 2000) : ev O (d + 1) y pc ls st h = if m_isc h a j = true then (ev O d k 0 (m_ent (m_ML k) (st.take na).reverse) [] h).bind (m_kn fun v h => ev O (d + 1) y (pc + 3) ls (v.toList ++ st.drop na) h) else none := by
  have e0 : (j + 2000) % 2000 = j := by omega
  have e : m_rc O h (j + 2001) (some (.ref a)) = m_isc h a j := by simp only [m_rc, m_isc, e0]; rfl
  have n2 : 2000 < j + 2001 := by omega
  simp only [ev, m_ev_call hp, m_pre_ok h1, hv, e, if_pos n2]
  rfl
theorem ev_callH {k na j a : Nat} {q : Nat × Nat × Nat} {hs : List (Nat × Nat × Nat)} (hp : m_P y pc = some (.inr (.inl (k, na, j + 1, q :: hs)))) (h1 : m_pre k na st = true) (hv : st[na - 1]? = some (.ref a)) (hj : decide (j < 2000) = true) : ev O (d + 1) y pc ls st h = if m_isc h a j = true then (ev O d k 0 (m_ent (m_ML k) (st.take na).reverse) [] h).bind (m_kh (q :: hs) ls (fun v h => ev O (d + 1) y (pc + 3) ls (v.toList ++ st.drop na) h) (fun p ls h => ev O (d + 1) y p ls [] h)) else none := by
  have hj := of_decide_eq_true hj
  have e : m_rc O h (j + 1) (some (.ref a)) = m_isc h a j := by simp only [m_rc, m_isc, Nat.mod_eq_of_lt hj]; rfl
  have n2 : ¬ 2000 < j + 1 := by omega
  simp only [ev, m_ev_call hp, m_pre_ok h1, hv, e, if_neg n2]
  split
  · refine congrArg (Option.bind _) (funext fun r => ?_)
    rcases r with ⟨v | e, h'⟩
    · rfl
    · simp only [m_kh]
      cases m_find (q :: hs) e <;> rfl
  · rfl
end EvOps
