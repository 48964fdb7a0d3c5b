/-! Frames: calls, returns, throws. What each site must have -/
def s_ex : Nat → String
  | 0 => "java/lang/IllegalArgumentException"
  | 1 => "java/lang/IndexOutOfBoundsException"
  | 2 => "java/util/NoSuchElementException"
  | _ => "java/lang/UnsupportedOperationException"
def s_up : List String := ["java/lang/RuntimeException", "java/lang/Exception"]
/-- a program's methods: name, code, locals, what it returns, table -/
abbrev sM : Type := (Nat → MethodName) × (Nat → ByteArray) × (Nat → Nat) × (Nat → Option FieldType) × (Nat → List (Nat × Nat × Nat × Nat))
def s_wd (M : sM) (y : Nat) : Cond := if (M.2.2.2.2 y).isEmpty = true then .code (M.1 y) (M.2.1 y) (M.2.2.1 y) (M.2.2.2.1 y) else .codeWith (M.1 y) (M.2.1 y) (M.2.2.1 y) (M.2.2.2.1 y) (M.2.2.2.2 y)
def s_ok1 (Ts : List Cond) (M : sM) (y : Nat) : Prop := plainName (M.1 y).cls = true ∧ ((M.1 y).cls ≠ "java/lang/invoke/MethodHandle" ∧ (M.1 y).cls ≠ "java/lang/invoke/VarHandle") ∧ M.2.2.1 y ≤ 22 ∧ s_wd M y ∈ Ts ∧ Cond.initialized (M.1 y).cls ∈ Ts
def s_site (Ts : List Cond) (cl : List vw_C) (tb : sT) (M : sM) (y pc k na rc : Nat) : Prop := s_ok1 Ts M k ∧ ∃ (i n : Nat), (parseMethodDescriptor (M.1 k).desc).map (fun d => d.parameters.length) = some n ∧
  ((decode (M.2.1 y) pc = .ok (.invokevirtual i, 3) ∧ na = n + 1 ∧ M.2.2.2.2 k = [] ∧ Cond.methodLink (M.1 y).cls i (M.1 k) ∈ Ts ∧ Cond.instanceMethod (M.1 k) ∈ Ts ∧ Cond.selects (M.1 k).cls (M.1 k) (M.1 k) ∈ Ts ∧ ((rc = 1000 ∧ (M.1 k).cls = "java/lang/String") ∨ ∃ (j : Nat) (T : u_T) (N : Nat), rc = j + 1 ∧ cl[j]? = some ((M.1 k).cls, T, N))) ∨
   (decode (M.2.1 y) pc = .ok (.invokestatic i, 3) ∧ na = n ∧ Cond.methodLink (M.1 y).cls i (M.1 k) ∈ Ts ∧ Cond.static (M.1 k) ∈ Ts) ∨
   (decode (M.2.1 y) pc = .ok (.invokespecial i, 3) ∧ na = n + 1 ∧ M.2.2.2.2 k = [] ∧ M.2.2.2.1 k = none ∧ (M.1 k).name = "<init>" ∧ Cond.instanceMethod (M.1 k) ∈ Ts ∧ (∃ (j : Nat) (T : u_T) (N : Nat), rc = j + 2001 ∧ cl[j]? = some ((M.1 k).cls, T, N)) ∧ (Cond.methodLink (M.1 y).cls i (M.1 k) ∈ Ts ∨ ∃ host, ((M.1 y).cls, i, M.1 k, host) ∈ tb.2.2.1)))
def s_hand (Ts : List Cond) (tb : sT) (M : sM) (y pc : Nat) (hs : List (Nat × Nat × Nat)) : Prop := (hs = [] → M.2.2.2.2 y = []) ∧ ∀ (e p j : Nat), m_find hs e = some (p, j) →
  ∃ (pre : List ExceptionTableEntry) (x : ExceptionTableEntry) (suf : List ExceptionTableEntry) (name : String), tableOf (M.2.2.2.2 y) = pre ++ x :: suf ∧
    (∀ z ∈ pre, covers z pc = false ∨ (z.catchType ≠ 0 ∧ ∃ nm : String, Cond.classLink (M.1 y).cls z.catchType nm ∈ Ts ∧ (s_ex e, nm) ∈ tb.2.2.2.1)) ∧ covers x pc = true ∧ x.catchType ≠ 0 ∧
    Cond.classLink (M.1 y).cls x.catchType name ∈ Ts ∧ (s_ex e, name) ∈ tb.2.2.2.2.1 ∧
    ((∃ k : Fin 4, decode (M.2.1 y) x.handlerPc = .ok (.astore_n k, 1) ∧ (k : Nat) = j ∧ p = x.handlerPc + 1) ∨ (decode (M.2.1 y) x.handlerPc = .ok (.astore j, 2) ∧ p = x.handlerPc + 2))
def s_rsite (M : sM) (y pc k : Nat) : Prop :=
  (k = 0 ∧ M.2.2.2.1 y = none ∧ decode (M.2.1 y) pc = .ok (.return_, 1)) ∨ (k = 1 ∧ M.2.2.2.1 y = some .int ∧ decode (M.2.1 y) pc = .ok (.ireturn, 1)) ∨ (k = 2 ∧ M.2.2.2.1 y = some .boolean ∧ decode (M.2.1 y) pc = .ok (.ireturn, 1)) ∨
  (k = 3 ∧ M.2.2.2.1 y = some .long ∧ decode (M.2.1 y) pc = .ok (.lreturn, 1)) ∨ (k = 4 ∧ (∃ rt, M.2.2.2.1 y = some rt ∧ ((∃ n, rt = .object n) ∨ ∃ t, rt = .array t)) ∧ decode (M.2.1 y) pc = .ok (.areturn, 1)) ∨
  (k = 5 ∧ M.2.2.2.1 y = some .byte ∧ decode (M.2.1 y) pc = .ok (.ireturn, 1)) ∨ (k = 6 ∧ M.2.2.2.1 y = some .char ∧ decode (M.2.1 y) pc = .ok (.ireturn, 1))
def s_tsite (Ts : List Cond) (tb : sT) (M : sM) (y pc e : Nat) : Prop := M.2.2.2.2 y = [] ∧ ∃ (ik ic : Nat), decode (M.2.1 y) pc = .ok (.new ik, 3) ∧ decode (M.2.1 y) (pc + 3) = .ok (.dup, 1) ∧ decode (M.2.1 y) (pc + 4) = .ok (.invokespecial ic, 3) ∧ decode (M.2.1 y) (pc + 7) = .ok (.athrow, 1) ∧
  Bundle.fit (s_ex e) = true ∧ Cond.classLink (M.1 y).cls ik (s_ex e) ∈ Ts ∧ Cond.initialized (s_ex e) ∈ Ts ∧ (∀ w ∈ (vx_at0 (M.1 y).cls ic (s_ex e) s_up).filter goodWord, w ∈ Ts) ∧
  (∀ w ∈ (vx_at0 (M.1 y).cls ic (s_ex e) s_up).filter (fun w => !goodWord w), (∃ q ∈ tb.2.2.2.2.1, w = .castable q.1 q.2) ∨ ∃ q ∈ tb.2.2.2.2.2, w = .declares q) ∧ (∀ w ∈ vx_at0 (M.1 y).cls ic (s_ex e) s_up, vx_ot w = true)
/-- a program whose every place is backed -/
def s_Prog (Ts : List Cond) (cl : List vw_C) (tb : sT) (M : sM) (P : Nat → Nat → Option mI) : Prop :=
  (∀ w ∈ Ts, goodWord w = true) ∧ cl[999]? = none ∧ ∀ (y pc : Nat) (op : mI), P y pc = some op → match op with
    | .inl f => s_Op Ts cl tb (M.1 y) (M.2.1 y) pc f ∧ s_mo f
    | .inr (.inl (k, na, rc, hs)) => s_site Ts cl tb M y pc k na rc ∧ s_hand Ts tb M y pc hs
    | .inr (.inr (.inl k)) => s_rsite M y pc k
    | .inr (.inr (.inr e)) => s_tsite Ts tb M y pc e
theorem s_run_mo {Ts : List Cond} {cl : List vw_C} {tb : sT} {M : sM} {P : Nat → Nat → Option mI} {O : mO} (hP : s_Prog Ts cl tb M P) : ∀ (n d y pc : Nat) (ls st : List Value) (h : mH) (r : mR), m_run P M.2.2.1 O n d y pc ls st h = some r → h.2 ≤ r.2.2 ∧ s_nc h ≤ s_nc r.2 ∧ s_ns h ≤ s_ns r.2 := by
  intro n
  induction n with
  | zero => intro d y pc ls st h r hr; simp [m_run] at hr
  | succ n ih =>
    intro d y pc ls st h r hr
    rw [m_run] at hr
    cases hp : P y pc with
    | none => simp [hp] at hr
    | some op =>
      have hop := hP.2.2 y pc op hp
      rcases op with f | ⟨k, na, rc, hs⟩ | k | e
      · simp only [hp] at hr
        obtain ⟨q, hq, hr⟩ := Option.bind_eq_some_iff.mp hr
        obtain ⟨h1, h2, h3⟩ := hop.2 O ls st h q hq
        obtain ⟨h4, h5, h6⟩ := ih _ _ _ _ _ _ _ hr
        exact ⟨by omega, by omega, by omega⟩
      · simp only [hp] at hr
        cases d with
        | zero => simp at hr
        | succ d' =>
          simp only at hr
          split at hr
          · obtain ⟨q, hq, hr⟩ := Option.bind_eq_some_iff.mp hr
            obtain ⟨h1, h2, h3⟩ := ih _ _ _ _ _ _ _ hq
            rcases q with ⟨v | e, g⟩
            · obtain ⟨h4, h5, h6⟩ := ih _ _ _ _ _ _ _ hr
              exact ⟨Nat.le_trans h1 h4, Nat.le_trans h2 h5, Nat.le_trans h3 h6⟩
            · simp only at hr
              split at hr
              · cases hr
              cases hf : m_find hs e with
              | none =>
                simp only [hf] at hr
                split at hr
                · cases hr; exact ⟨h1, h2, h3⟩
                · cases hr
              | some z =>
                simp only [hf] at hr
                split at hr
                · obtain ⟨h4, h5, h6⟩ := ih _ _ _ _ _ _ _ hr
                  exact ⟨Nat.le_trans h1 h4, Nat.le_trans h2 h5, Nat.le_trans h3 h6⟩
                · cases hr
          · cases hr
      · simp only [hp] at hr
        cases hm : m_ret k st with
        | none => simp [hm] at hr
        | some v => simp only [hm, Option.map_some] at hr; cases hr; exact ⟨Nat.le_refl _, Nat.le_refl _, Nat.le_refl _⟩
      · simp only [hp] at hr
        split at hr
        · cases hr
          exact ⟨by simp, by simp [s_nc], by simp [s_ns]; omega⟩
        · cases hr
theorem s_args_len {base : Nat} {oa : Nat → Nat} : ∀ vs : List Value, (lg_sl (vs.map (s_tv base oa))).length = (m_args vs).length := by
  intro vs
  induction vs with
  | nil => rfl
  | cons v r ih =>
    have e : lg_sl ((v :: r).map (s_tv base oa)) = (if (s_tv base oa v).category = 2 then [Slot.val (s_tv base oa v), .second] else [Slot.val (s_tv base oa v)]) ++ lg_sl (r.map (s_tv base oa)) := by simp [lg_sl]
    rw [e, List.length_append, ih, s_tv_cat]
    cases v <;> simp [m_args, Value.category] <;> omega
theorem s_args_at {base : Nat} {oa : Nat → Nat} : ∀ (vs : List Value) (i j : Nat) (v : Value), (m_args vs)[j]? = some v → v ≠ mJ → (i + j, s_tv base oa v) ∈ lv_args i (vs.map (s_tv base oa)) := by
  intro vs
  induction vs with
  | nil => intro i j v h; simp [m_args] at h
  | cons w r ih =>
    intro i j v h hv
    simp only [List.map_cons, lv_args, s_tv_cat]
    by_cases hc : w.category = 2
    · have e : m_args (w :: r) = w :: mJ :: m_args r := by cases w <;> first | rfl | (simp [Value.category] at hc)
      rw [e] at h
      rw [if_pos hc]
      match j, h with
      | 0, h => simp at h; subst h; exact List.mem_cons_self
      | 1, h => simp at h; exact absurd h.symm hv
      | j + 2, h =>
        simp at h
        have := ih (i + 2) j v h hv
        rw [show i + (j + 2) = i + 2 + j by omega]
        exact List.mem_cons_of_mem _ this
    · have e : m_args (w :: r) = w :: m_args r := by cases w <;> first | rfl | (simp [Value.category] at hc)
      rw [e] at h
      rw [if_neg hc]
      match j, h with
      | 0, h => simp at h; subst h; exact List.mem_cons_self
      | j + 1, h =>
        simp at h
        have := ih (i + 1) j v h hv
        rw [show i + (j + 1) = i + 1 + j by omega]
        exact List.mem_cons_of_mem _ this
/-- the locals with which a method begins -/
theorem s_ent {base : Nat} {oa : Nat → Nat} {nL : Nat} {vs : List Value} (h : (m_args vs).length ≤ nL) : s_lr base oa nL (m_ent nL vs) ((lg_sl (vs.map (s_tv base oa)) ++ List.replicate (nL - (lg_sl (vs.map (s_tv base oa))).length) Slot.unset).toArray) := by
  refine ⟨by simp [m_ent]; omega, ?_⟩
  have hl := lv_entry (vs.map (s_tv base oa)) (n := nL) (by rw [s_args_len]; exact h)
  refine ⟨hl.1, hl.2.1, fun q hq => hl.2.2 q ?_⟩
  obtain ⟨i, w⟩ := q
  obtain ⟨v, hv, hne, rfl⟩ := s_la_mem.mp hq
  rw [m_ent] at hv
  by_cases hi : i < (m_args vs).length
  · rw [List.getElem?_append_left hi] at hv
    have := s_args_at (base := base) (oa := oa) vs 0 i v hv hne
    simpa using this
  · rw [List.getElem?_append_right (by omega), List.getElem?_replicate] at hv
    split at hv
    · cases hv; exact absurd rfl hne
    · cases hv
