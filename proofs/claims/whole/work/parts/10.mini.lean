/-! A small machine: the JVM's values; '.ref i' is the cell at place i of a list of cells that were made since the start, '.retAddr k' a thing that was there before it (never written); '.float 0' (mJ) stands where nothing is read. -/
abbrev mC : Type := (Nat × vp_A) ⊕ (Nat × List Value)
abbrev mH : Type := List mC × Nat
abbrev mO : Type := Nat → Option mC
abbrev mF : Type := Nat × List Value × List Value × mH
abbrev mS : Type := mO → List Value → List Value → mH → Option mF
abbrev mR : Type := (Option Value ⊕ Nat) × mH
/-- what stands at a pc: a plain step; a call (callee, how many values it takes, what its receiver is: 0 none, j + 1 an object of class j, 2001 + j such a one that is being made (it throws nothing), 1000 a text; handlers: exception, pc behind the astore, its local); a return of a kind; a throw -/
abbrev mI : Type := mS ⊕ (Nat × Nat × Nat × List (Nat × Nat × Nat)) ⊕ Nat ⊕ Nat
def mJ : Value := .float 0
def m_args : List Value → List Value
  | [] => []
  | .long x :: r => .long x :: mJ :: m_args r
  | .double x :: r => .double x :: mJ :: m_args r
  | v :: r => v :: m_args r
def m_ent (n : Nat) (vs : List Value) : List Value := m_args vs ++ List.replicate (n - (m_args vs).length) mJ
def m_fr (ls : List Value) (i : Nat) : Bool := match i with
  | 0 => true
  | j + 1 => match ls[j]? with
    | some v => v.category == 1
    | none => true
def m_find : List (Nat × Nat × Nat) → Nat → Option (Nat × Nat)
  | [], _ => none
  | (e, p, j) :: r, x => if e = x then some (p, j) else m_find r x
def m_rc (O : mO) (h : mH) (rc : Nat) (v : Option Value) : Bool := match rc with
  | 0 => true
  | j + 1 => match v with
    | some (.ref b) => match h.1[b]? with
      | some (.inr (c, _)) => c == j % 2000
      | _ => false
    | some (.retAddr b) => match O b with
      | some (.inr _) => j == 999
      | _ => false
    | _ => false
def m_ok (O : mO) (ml na rc : Nat) (st : List Value) (h : mH) : Bool := decide (na ≤ st.length) && decide ((m_args (st.take na).reverse).length ≤ ml) && decide (((st.drop na).map fun v => v.category).sum ≤ 8) && m_rc O h rc st[na - 1]?
def m_ret (k : Nat) (st : List Value) : Option (Option Value) := match k, st with
  | 0, [] => some none
  | 1, [.int x] => some (some (.int x))
  | 2, [.int x] => if x = 0 ∨ x = 1 then some (some (.int x)) else none
  | 3, [.long x] => some (some (.long x))
  | 4, [.ref a] => some (some (.ref a))
  | 4, [.retAddr a] => some (some (.retAddr a))
  | 5, [.int x] => if x.toInt8.toInt32 = x then some (some (.int x)) else none
  | 6, [.int x] => if x.toUInt32.toUInt16.toUInt32.toInt32 = x then some (some (.int x)) else none
  | _, _ => none
def m_run (P : Nat → Nat → Option mI) (ML : Nat → Nat) (O : mO) : Nat → Nat → Nat → Nat → List Value → List Value → mH → Option mR
  | 0, _, _, _, _, _, _ => none
  | n + 1, d, y, pc, ls, st, h =>
    match P y pc with
    | none => none
    | some (.inl f) => (f O ls st h).bind fun q => m_run P ML O n d y q.1 q.2.1 q.2.2.1 q.2.2.2
    | some (.inr (.inl (k, na, rc, hs))) =>
      match d with
      | 0 => none
      | d' + 1 =>
        if m_ok O (ML k) na rc st h = true then
          (m_run P ML O n d' k 0 (m_ent (ML k) (st.take na).reverse) [] h).bind fun r =>
            match r.1 with
            | .inl v => m_run P ML O n (d' + 1) y (pc + 3) ls (v.toList ++ st.drop na) r.2
            | .inr e => if 2000 < rc then none else match m_find hs e with
              | none => if hs.isEmpty = true then some (.inr e, r.2) else none
              | some (p, j) => if j < ls.length ∧ m_fr ls j = true then m_run P ML O n (d' + 1) y p (ls.set j mJ) [] r.2 else none
        else none
    | some (.inr (.inr (.inl k))) => (m_ret k st).map fun v => (.inl v, h)
    | some (.inr (.inr (.inr e))) => if (st.map fun v => v.category).sum ≤ 8 then some (.inr e, (h.1, h.2 + 1)) else none
section MRun
variable {P : Nat → Nat → Option mI} {ML : Nat → Nat} {O : mO}
theorem m_mono1 : ∀ (n d y pc : Nat) (ls st : List Value) (h : mH) (r : mR), m_run P ML O n d y pc ls st h = some r → m_run P ML O (n + 1) d y pc ls st h = some r := by
  intro n
  induction n with
  | zero => intro d y pc ls st h r hr; simp [m_run] at hr
  | succ n ih =>
    intro d y pc ls st h r hr
    rw [m_run] at hr ⊢
    cases hp : P y pc with
    | none => simp [hp] at hr
    | some op =>
      rcases op with f | ⟨k, na, rc, hs⟩ | k | e
      · simp only [hp] at hr ⊢
        obtain ⟨q, hq, hr⟩ := Option.bind_eq_some_iff.mp hr
        exact Option.bind_eq_some_iff.mpr ⟨q, hq, ih _ _ _ _ _ _ _ hr⟩
      · simp only [hp] at hr ⊢
        cases d with
        | zero => simp at hr
        | succ d' =>
          simp only at hr ⊢
          split at hr
          · rename_i hc
            rw [if_pos hc]
            obtain ⟨q, hq, hr⟩ := Option.bind_eq_some_iff.mp hr
            refine Option.bind_eq_some_iff.mpr ⟨q, ih _ _ _ _ _ _ _ hq, ?_⟩
            rcases q with ⟨v | e, h1⟩
            · exact ih _ _ _ _ _ _ _ hr
            · simp only at hr ⊢
              split at hr
              · cases hr
              rename_i hrc
              rw [if_neg hrc]
              cases hf : m_find hs e with
              | none => simp only [hf] at hr ⊢; exact hr
              | some z =>
                simp only [hf] at hr ⊢
                split at hr
                · rename_i hj
                  rw [if_pos hj]
                  exact ih _ _ _ _ _ _ _ hr
                · cases hr
          · cases hr
      · simp only [hp] at hr ⊢; exact hr
      · simp only [hp] at hr ⊢; exact hr
theorem m_mono {n k d y pc : Nat} {ls st : List Value} {h : mH} {r : mR} (hk : n ≤ k) (hr : m_run P ML O n d y pc ls st h = some r) : m_run P ML O k d y pc ls st h = some r := by
  induction hk with
  | refl => exact hr
  | step _ ih => exact m_mono1 _ _ _ _ _ _ _ _ ih
theorem m_det {n k d y pc : Nat} {ls st : List Value} {h : mH} {r r' : mR} (hr : m_run P ML O n d y pc ls st h = some r) (hr' : m_run P ML O k d y pc ls st h = some r') : r = r' := by
  have h1 := m_mono (Nat.le_max_left n k) hr
  have h2 := m_mono (Nat.le_max_right n k) hr'
  exact Option.some.inj (h1.symm.trans h2)
end MRun
/-- what the machine comes to, however long it takes -/
noncomputable def m_ev (P : Nat → Nat → Option mI) (ML : Nat → Nat) (O : mO) (d y pc : Nat) (ls st : List Value) (h : mH) : Option mR :=
  @dite _ (∃ r n, m_run P ML O n d y pc ls st h = some r) (Classical.propDecidable _) (fun q => some q.choose) (fun _ => none)
section MEv
variable {P : Nat → Nat → Option mI} {ML : Nat → Nat} {O : mO} {d y pc : Nat} {ls st : List Value} {h : mH}
theorem m_ev_iff {r : mR} : m_ev P ML O d y pc ls st h = some r ↔ ∃ n, m_run P ML O n d y pc ls st h = some r := by
  unfold m_ev
  split
  · rename_i q
    constructor
    · intro e
      rw [← Option.some.inj e]
      exact q.choose_spec
    · rintro ⟨n, hn⟩
      obtain ⟨k, hk⟩ := q.choose_spec
      exact congrArg some (m_det hk hn)
  · rename_i q
    exact ⟨fun e => (nomatch e), fun e => absurd ⟨r, e⟩ q⟩
theorem m_ev_step {f : mS} (hp : P y pc = some (.inl f)) : m_ev P ML O d y pc ls st h = (f O ls st h).bind fun q => m_ev P ML O d y q.1 q.2.1 q.2.2.1 q.2.2.2 := by
  refine Option.ext fun r => ?_
  rw [m_ev_iff, Option.bind_eq_some_iff]
  constructor
  · rintro ⟨n, hn⟩
    cases n with
    | zero => simp [m_run] at hn
    | succ n =>
      rw [m_run] at hn
      simp only [hp] at hn
      obtain ⟨q, hq, hr⟩ := Option.bind_eq_some_iff.mp hn
      exact ⟨q, hq, m_ev_iff.mpr ⟨n, hr⟩⟩
  · rintro ⟨q, hq, hr⟩
    obtain ⟨n, hn⟩ := m_ev_iff.mp hr
    refine ⟨n + 1, ?_⟩
    rw [m_run]
    simp only [hp]
    exact Option.bind_eq_some_iff.mpr ⟨q, hq, hn⟩
theorem m_ev_call {k na rc : Nat} {hs : List (Nat × Nat × Nat)} (hp : P y pc = some (.inr (.inl (k, na, rc, hs)))) : m_ev P ML O (d + 1) y pc ls st h =
    if m_ok O (ML k) na rc st h = true then
      (m_ev P ML O d k 0 (m_ent (ML k) (st.take na).reverse) [] h).bind fun r =>
        match r.1 with
        | .inl v => m_ev P ML O (d + 1) y (pc + 3) ls (v.toList ++ st.drop na) r.2
        | .inr e => if 2000 < rc then none else match m_find hs e with
          | none => if hs.isEmpty = true then some (.inr e, r.2) else none
          | some (p, j) => if j < ls.length ∧ m_fr ls j = true then m_ev P ML O (d + 1) y p (ls.set j mJ) [] r.2 else none
    else none := by
  refine Option.ext fun r => ?_
  rw [m_ev_iff]
  constructor
  · rintro ⟨n, hn⟩
    cases n with
    | zero => simp [m_run] at hn
    | succ n =>
      rw [m_run] at hn
      simp only [hp] at hn
      split at hn
      · rename_i hc
        rw [if_pos hc]
        obtain ⟨q, hq, hr⟩ := Option.bind_eq_some_iff.mp hn
        refine Option.bind_eq_some_iff.mpr ⟨q, m_ev_iff.mpr ⟨n, hq⟩, ?_⟩
        rcases q with ⟨v | e, h1⟩
        · exact m_ev_iff.mpr ⟨n, hr⟩
        · simp only at hr ⊢
          split at hr
          · cases hr
          rename_i hrc
          rw [if_neg hrc]
          cases hf : m_find hs e with
          | none => simp only [hf] at hr ⊢; exact hr
          | some z =>
            simp only [hf] at hr ⊢
            split at hr
            · rename_i hj
              rw [if_pos hj]
              exact m_ev_iff.mpr ⟨n, hr⟩
            · cases hr
      · cases hn
  · intro hr
    split at hr
    · rename_i hc
      obtain ⟨q, hq, hr⟩ := Option.bind_eq_some_iff.mp hr
      obtain ⟨n1, hn1⟩ := m_ev_iff.mp hq
      have key : ∀ n2 : Nat, n1 ≤ n2 → (match q.1 with
        | .inl v => m_run P ML O n2 (d + 1) y (pc + 3) ls (v.toList ++ st.drop na) q.2
        | .inr e => if 2000 < rc then none else match m_find hs e with
          | none => if hs.isEmpty = true then some (.inr e, q.2) else none
          | some (p, j) => if j < ls.length ∧ m_fr ls j = true then m_run P ML O n2 (d + 1) y p (ls.set j mJ) [] q.2 else none) = some r → ∃ n, m_run P ML O n (d + 1) y pc ls st h = some r := by
        intro n2 hle h2
        refine ⟨n2 + 1, ?_⟩
        rw [m_run]
        simp only [hp]
        rw [if_pos hc]
        exact Option.bind_eq_some_iff.mpr ⟨q, m_mono hle hn1, h2⟩
      rcases q with ⟨v | e, h1⟩
      · obtain ⟨n2, hn2⟩ := m_ev_iff.mp hr
        exact key (max n1 n2) (Nat.le_max_left _ _) (m_mono (Nat.le_max_right _ _) hn2)
      · simp only at hr key
        split at hr
        · cases hr
        rename_i hrc
        simp only [if_neg hrc] at key
        cases hf : m_find hs e with
        | none => simp only [hf] at hr key; exact key n1 (Nat.le_refl _) hr
        | some z =>
          simp only [hf] at hr key
          split at hr
          · rename_i hj
            simp only [if_pos hj] at key
            obtain ⟨n2, hn2⟩ := m_ev_iff.mp hr
            exact key (max n1 n2) (Nat.le_max_left _ _) (m_mono (Nat.le_max_right _ _) hn2)
          · cases hr
    · cases hr
theorem m_ev_ret {k : Nat} (hp : P y pc = some (.inr (.inr (.inl k)))) : m_ev P ML O d y pc ls st h = (m_ret k st).map fun v => (.inl v, h) := by
  refine Option.ext fun r => ?_
  rw [m_ev_iff]
  constructor
  · rintro ⟨n, hn⟩
    cases n with
    | zero => simp [m_run] at hn
    | succ n => rw [m_run] at hn; simp only [hp] at hn; exact hn
  · intro hr
    exact ⟨1, by rw [m_run]; simp only [hp]; exact hr⟩
theorem m_ev_throw {e : Nat} (hp : P y pc = some (.inr (.inr (.inr e)))) : m_ev P ML O d y pc ls st h = if (st.map fun v => v.category).sum ≤ 8 then some (.inr e, (h.1, h.2 + 1)) else none := by
  refine Option.ext fun r => ?_
  rw [m_ev_iff]
  constructor
  · rintro ⟨n, hn⟩
    cases n with
    | zero => simp [m_run] at hn
    | succ n => rw [m_run] at hn; simp only [hp] at hn; exact hn
  · intro hr
    exact ⟨1, by rw [m_run]; simp only [hp]; exact hr⟩
end MEv
