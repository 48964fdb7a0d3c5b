/-! The world beside the cells, and a step's law: the JVM at a frame does what the small machine does -/
/-- tables: statics; texts; links to nest mates' private methods; pairs that can't be cast, that can; declared methods -/
abbrev sT : Type := List (String × String × String × Value) × List (String × Nat × String × Nat) × List (String × Nat × MethodName × String) × List (String × String) × List (String × String) × List MethodName
def s_sf : List (String × String) := [("value", "[B"), ("coder", "B")]
def s_out (base : Nat) (oa : Nat → Nat) (c : mC) (q : Nat) (U : State) (H : Heap) : Prop := match c with
  | .inl (t, n, .inl f) => va_T (if t = 0 then .int else .byte) q n (fun j => .int (f j)) (s_A base) U H
  | .inl (_, n, .inr (.inl f)) => va_T .long q n (fun j => .long (f j)) (s_A base) U H
  | .inl _ => True
  | .inr (_, fs) => va_O "java/lang/String" q (s_A base) U H ∧ ∀ (k : Nat) (nd : String × String) (v : Value), s_sf[k]? = some nd → fs[k]? = some v → va_OF "java/lang/String" nd.1 nd.2 (s_tv base oa v) q (s_A base) U H
def s_sv (base : Nat) (oa : Nat → Nat) (O : mO) (v : Value) : Value := s_tv base oa (m_sv O v)
def s_Wd (base : Nat) (oa : Nat → Nat) (cA : Nat → ClassId) (D : va_G) (cl : List vw_C) (O : mO) (tb : sT) (U : State) (H : Heap) : Prop :=
  va_K D cl (s_tys cA) U ∧ (∀ (k : Nat) (c : mC), O k = some c → s_out base oa c (oa k) U H) ∧ (∀ q ∈ tb.1, va_Z q.1 q.2.1 q.2.2.1 (s_sv base oa O q.2.2.2) (s_A base) U H) ∧ (∀ q ∈ tb.2.1, vk_R q.1 q.2.1 q.2.2.1 (oa q.2.2.2) U) ∧
  (∀ q ∈ tb.2.2.1, va_Nw (.methodLinkNest q.1 q.2.1 q.2.2.1 q.2.2.2) U) ∧ (∀ q ∈ tb.2.2.2.1, va_Nc q.1 q.2 U) ∧ (∀ q ∈ tb.2.2.2.2.1, va_Nw (.castable q.1 q.2) U) ∧ (∀ q ∈ tb.2.2.2.2.2, va_Nw (.declares q) U) ∧
  vx_Zq Bundle.tN "UNASSIGNED_STACK" Bundle.steD (s_A base) U H ∧ vx_Zq Bundle.tN "SUPPRESSED_SENTINEL" Bundle.listD (s_A base) U H
theorem s_out.kept {base : Nat} {oa : Nat → Nat} {c : mC} {q : Nat} {U : State} {H H1 : Heap} (h : s_out base oa c q U H) (hq : ∀ a : Nat, a < H.size → ¬ s_A base a → H1[a]? = H[a]?) : s_out base oa c q U H1 := by
  rcases c with ⟨t, n, f | f | f⟩ | ⟨i, fs⟩
  · exact va_T.kept h hq
  · exact va_T.kept h hq
  · trivial
  · exact ⟨h.1.kept hq, fun k nd v h1 h2 => (h.2 k nd v h1 h2).kept hq⟩
theorem s_out.moved {base : Nat} {oa : Nat → Nat} {c : mC} {q : Nat} {u U : State} {H : Heap} (hvm : u.vm.Alike U.vm) (h : s_out base oa c q u H) : s_out base oa c q U H := by
  rcases c with ⟨t, n, f | f | f⟩ | ⟨i, fs⟩
  · exact va_T.moved hvm h
  · exact va_T.moved hvm h
  · trivial
  · exact ⟨va_O.moved hvm h.1, fun k nd v h1 h2 => va_OF.moved hvm (h.2 k nd v h1 h2)⟩
theorem s_Wd.kept {base : Nat} {oa : Nat → Nat} {cA : Nat → ClassId} {D : va_G} {cl : List vw_C} {O : mO} {tb : sT} {U : State} {H H1 : Heap} (h : s_Wd base oa cA D cl O tb U H) (hq : ∀ a : Nat, a < H.size → ¬ s_A base a → H1[a]? = H[a]?) : s_Wd base oa cA D cl O tb U H1 :=
  ⟨h.1, fun k c hk => (h.2.1 k c hk).kept hq, fun q hm => (h.2.2.1 q hm).kept hq, h.2.2.2.1, h.2.2.2.2.1, h.2.2.2.2.2.1, h.2.2.2.2.2.2.1, h.2.2.2.2.2.2.2.1, h.2.2.2.2.2.2.2.2.1.kept hq, h.2.2.2.2.2.2.2.2.2.kept hq⟩
theorem s_Wd.warm {base : Nat} {oa : Nat → Nat} {cA : Nat → ClassId} {D : va_G} {cl : List vw_C} {O : mO} {tb : sT} {s U : State} {H : Heap} (hW : s.WarmedH U.vm) (h : s_Wd base oa cA D cl O tb s H) : s_Wd base oa cA D cl O tb U H :=
  ⟨va_K.moved hW.alike h.1, fun k c hk => (h.2.1 k c hk).moved hW.alike, fun q hm => va_Z.moved hW.alike (h.2.2.1 q hm), fun q hm => (h.2.2.2.1 q hm).warm hW, fun q hm => va_Nw.warmM hW (h.2.2.2.2.1 q hm), fun q hm => va_Nc.moved hW.alike (h.2.2.2.2.2.1 q hm), fun q hm => va_Nw.warmC hW (h.2.2.2.2.2.2.1 q hm), fun q hm => va_Nw.warmD hW (h.2.2.2.2.2.2.2.1 q hm), vx_Zq.moved hW.alike h.2.2.2.2.2.2.2.2.1, vx_Zq.moved hW.alike h.2.2.2.2.2.2.2.2.2⟩
/-- the frame of a method in the JVM, where the small machine stands at pc with ls, st, h -/
def s_V (base : Nat) (oa : Nat → Nat) (cA : Nat → ClassId) (D : va_G) (cl : List vw_C) (p : Program) (l : Launch) (e : Env) (R : Room) (s : State) (m : MethodId) (args : Array Value) (below : List Frame) (meth : Method) (c : Code) (nL c0 s0 : Nat) (Q : State → Prop) (pc : Nat) (ls st : List Value) (h : mH) : Prop :=
  ∀ (lsM : Array Slot) (H : Heap) (locs : List Loc) (cells slots : Nat), s_lr base oa nL ls lsM → va_P D cl (s_rl base oa cA h.1) H → va_S (s_A base) s.heap H locs → cells + c0 = s_nc h → slots + s0 = s_ns h →
    W p l e R s m args below meth c H locs cells slots Q (F0 m pc lsM (st.map (s_tv base oa)))
/-- what the frame stands in -/
def s_Cx (base : Nat) (oa : Nat → Nat) (cA : Nat → ClassId) (D : va_G) (cl : List vw_C) (O : mO) (tb : sT) (p : Program) (s : State) (m : MethodId) (args : Array Value) (meth : Method) (c : Code) (nL : Nat) (y : MethodName) (cc : ByteArray) (Ts : List Cond) : Prop :=
  p.tables.exec = Jvm.exec ∧ c.code = cc ∧ c.maxLocals = nL ∧ s.vm.findClass y.cls = some m.cls ∧ (∀ w ∈ Ts, w.before args s = true) ∧ s_Wd base oa cA D cl O tb s s.heap ∧ base ≤ s.heap.size ∧ meth.locks = false ∧ meth.name = y.name
/-- the law of a plain step f at pc in the code cc of the method y -/
def s_Op (Ts : List Cond) (cl : List vw_C) (tb : sT) (y : MethodName) (cc : ByteArray) (pc : Nat) (f : mS) : Prop :=
  ∀ (base : Nat) (oa : Nat → Nat) (cA : Nat → ClassId) (D : va_G) (O : mO) (p : Program) (l : Launch) (e : Env) (R : Room) (s : State) (m : MethodId) (args : Array Value) (below : List Frame) (meth : Method) (c : Code) (nL c0 s0 : Nat) (Q : State → Prop) (ls st : List Value) (h : mH) (q : mF),
    s_Cx base oa cA D cl O tb p s m args meth c nL y cc Ts → 2 ≤ R.frames → 100 ≤ R.locals → (h.2 = 0 → s.heap.size ≤ base + c0) → f O ls st h = some q → s_nc q.2.2.2 ≤ R.cells + c0 → s_ns q.2.2.2 ≤ R.slots + s0 →
    s_V base oa cA D cl p l e R s m args below meth c nL c0 s0 Q q.1 q.2.1 q.2.2.1 q.2.2.2 → s_V base oa cA D cl p l e R s m args below meth c nL c0 s0 Q pc ls st h
def s_mo (f : mS) : Prop := ∀ (O : mO) (ls st : List Value) (h : mH) (q : mF), f O ls st h = some q → h.2 = q.2.2.2.2 ∧ s_nc h ≤ s_nc q.2.2.2 ∧ s_ns h ≤ s_ns q.2.2.2
theorem s_mo_same {f : mS} (hf : ∀ (O : mO) (ls st : List Value) (h : mH) (q : mF), f O ls st h = some q → q.2.2.2 = h) : s_mo f := fun O ls st h q hq => by
  rw [hf O ls st h q hq]
  exact ⟨rfl, Nat.le_refl _, Nat.le_refl _⟩
section S2
variable {Ts : List Cond} {cl : List vw_C} {tb : sT} {y : MethodName} {cc : ByteArray} {pc : Nat}

theorem s_iconst {n : Int} {v : Int32} (hd : decode cc pc = .ok (.iconst n, 1)) (hv : Int32.ofInt n = v) : s_Op Ts cl tb y cc pc (o_push (.int v) (pc + 1)) := by
  intro base oa cA D O p l e R s m args below meth c nL c0 s0 Q ls st h q C hRf hRl hz hf hc1 hc2 K lsM H locs cells slots hl hP hS hc hs
  obtain ⟨hx, hb, hml, hown, hts, hwd, hba, hlk, hnm⟩ := C
  cases hf
  exact lv_iconst hx hb hd hv (K lsM H locs cells slots hl hP hS hc hs)
theorem s_bipush {n : Int} {v : Int32} (hd : decode cc pc = .ok (.bipush n, 2)) (hv : (Int8.ofInt n).toInt32 = v) : s_Op Ts cl tb y cc pc (o_push (.int v) (pc + 2)) := by
  intro base oa cA D O p l e R s m args below meth c nL c0 s0 Q ls st h q C hRf hRl hz hf hc1 hc2 K lsM H locs cells slots hl hP hS hc hs
  obtain ⟨hx, hb, hml, hown, hts, hwd, hba, hlk, hnm⟩ := C
  cases hf
  exact lv_bipush hx hb hd hv (K lsM H locs cells slots hl hP hS hc hs)
theorem s_sipush {n : Int} {v : Int32} (hd : decode cc pc = .ok (.sipush n, 3)) (hv : (Int16.ofInt n).toInt32 = v) : s_Op Ts cl tb y cc pc (o_push (.int v) (pc + 3)) := by
  intro base oa cA D O p l e R s m args below meth c nL c0 s0 Q ls st h q C hRf hRl hz hf hc1 hc2 K lsM H locs cells slots hl hP hS hc hs
  obtain ⟨hx, hb, hml, hown, hts, hwd, hba, hlk, hnm⟩ := C
  cases hf
  exact lv_sipush hx hb hd hv (K lsM H locs cells slots hl hP hS hc hs)
theorem s_lconst {n : Fin 2} {v : Int64} (hd : decode cc pc = .ok (.lconst n, 1)) (hv : Int64.ofNat (n : Nat) = v) : s_Op Ts cl tb y cc pc (o_push (.long v) (pc + 1)) := by
  intro base oa cA D O p l e R s m args below meth c nL c0 s0 Q ls st h q C hRf hRl hz hf hc1 hc2 K lsM H locs cells slots hl hP hS hc hs
  obtain ⟨hx, hb, hml, hown, hts, hwd, hba, hlk, hnm⟩ := C
  cases hf
  exact lv_lconst hx hb hd hv (K lsM H locs cells slots hl hP hS hc hs)
theorem s_ldc {i : Nat} {v : Int32} (hw : Cond.constant y.cls i v ∈ Ts) (hd : decode cc pc = .ok (.ldc i, 2)) : s_Op Ts cl tb y cc pc (o_push (.int v) (pc + 2)) := by
  intro base oa cA D O p l e R s m args below meth c nL c0 s0 Q ls st h q C hRf hRl hz hf hc1 hc2 K lsM H locs cells slots hl hP hS hc hs
  obtain ⟨hx, hb, hml, hown, hts, hwd, hba, hlk, hnm⟩ := C
  cases hf
  exact lv_ldc hx hb hown (hts _ hw) hd (K lsM H locs cells slots hl hP hS hc hs)
theorem s_ldcw {i : Nat} {v : Int32} (hw : Cond.constant y.cls i v ∈ Ts) (hd : decode cc pc = .ok (.ldc_w i, 3)) : s_Op Ts cl tb y cc pc (o_push (.int v) (pc + 3)) := by
  intro base oa cA D O p l e R s m args below meth c nL c0 s0 Q ls st h q C hRf hRl hz hf hc1 hc2 K lsM H locs cells slots hl hP hS hc hs
  obtain ⟨hx, hb, hml, hown, hts, hwd, hba, hlk, hnm⟩ := C
  cases hf
  exact lv_ldcw hx hb hown (hts _ hw) hd (K lsM H locs cells slots hl hP hS hc hs)
theorem s_ldc2 {i : Nat} {v : Int64} (hw : Cond.constantLong y.cls i v ∈ Ts) (hd : decode cc pc = .ok (.ldc2_w i, 3)) : s_Op Ts cl tb y cc pc (o_push (.long v) (pc + 3)) := by
  intro base oa cA D O p l e R s m args below meth c nL c0 s0 Q ls st h q C hRf hRl hz hf hc1 hc2 K lsM H locs cells slots hl hP hS hc hs
  obtain ⟨hx, hb, hml, hown, hts, hwd, hba, hlk, hnm⟩ := C
  cases hf
  exact lv_ldc2 hx hb hown (hts _ hw) hd (K lsM H locs cells slots hl hP hS hc hs)
theorem s_ldcS {i k : Nat} {tx : String} (hw : (y.cls, i, tx, k) ∈ tb.2.1) (hd : decode cc pc = .ok (.ldc i, 2)) : s_Op Ts cl tb y cc pc (o_push (.retAddr k) (pc + 2)) := by
  intro base oa cA D O p l e R s m args below meth c nL c0 s0 Q ls st h q C hRf hRl hz hf hc1 hc2 K lsM H locs cells slots hl hP hS hc hs
  obtain ⟨hx, hb, hml, hown, hts, hwd, hba, hlk, hnm⟩ := C
  cases hf
  exact va_ldcS hx hb hown (hwd.2.2.2.1 _ hw) hd (K lsM H locs cells slots hl hP hS hc hs)
theorem s_gets {i : Nat} {C0 n d : String} {v : Value} (hz0 : (C0, n, d, v) ∈ tb.1) (hw : Cond.fieldLink y.cls i C0 n d ∈ Ts) (hd : decode cc pc = .ok (.getstatic i, 3)) : s_Op Ts cl tb y cc pc (o_gst v (pc + 3)) := by
  intro base oa cA D O p l e R s m args below meth c nL c0 s0 Q ls st h q C hRf hRl hz hf hc1 hc2 K lsM H locs cells slots hl hP hS hc hs
  obtain ⟨hx, hb, hml, hown, hts, hwd, hba, hlk, hnm⟩ := C
  cases hf
  exact va_gets hx hb (hwd.2.2.1 _ hz0) hS hown (hts _ hw) (fun _ h => h) hd (K lsM H locs cells slots hl hP hS hc hs)
theorem s_mo_gst (v : Value) (nx : Nat) : s_mo (o_gst v nx) := s_mo_same fun O ls st h q hf => by cases hf; rfl
theorem s_mo_push (v : Value) (nx : Nat) : s_mo (o_push v nx) := s_mo_same fun O ls st h q hf => by cases hf; rfl
theorem s_goto {off : Int} {tgt : Nat} (hd : decode cc pc = .ok (.goto off, 3)) (ht : (pc : Int) + off = (tgt : Int)) : s_Op Ts cl tb y cc pc (o_goto tgt) := by
  intro base oa cA D O p l e R s m args below meth c nL c0 s0 Q ls st h q C hRf hRl hz hf hc1 hc2 K lsM H locs cells slots hl hP hS hc hs
  obtain ⟨hx, hb, hml, hown, hts, hwd, hba, hlk, hnm⟩ := C
  cases hf
  exact lv_goto hx hb hd ht (K lsM H locs cells slots hl hP hS hc hs)
theorem s_mo_goto (nx : Nat) : s_mo (o_goto nx) := s_mo_same fun O ls st h q hf => by cases hf; rfl
theorem s_ldIn {i : Nat} {k : Fin 4} (hd : decode cc pc = .ok (.iload_n k, 1)) (hi : (k : Nat) = i) : s_Op Ts cl tb y cc pc (o_ldI i (pc + 1)) := by
  intro base oa cA D O p l e R s m args below meth c nL c0 s0 Q ls st h q C hRf hRl hz hf hc1 hc2 K lsM H locs cells slots hl hP hS hc hs
  obtain ⟨hx, hb, hml, hown, hts, hwd, hba, hlk, hnm⟩ := C
  simp only [o_ldI] at hf
  split at hf
  · rename_i x hx1
    cases hf
    exact lv_iload_n hx hb hd hi (s_lr_get hl hx1 (fun e => (nomatch e))) (K lsM H locs cells slots hl hP hS hc hs)
  · cases hf
theorem s_ldI {i : Nat} (hd : decode cc pc = .ok (.iload i, 2)) : s_Op Ts cl tb y cc pc (o_ldI i (pc + 2)) := by
  intro base oa cA D O p l e R s m args below meth c nL c0 s0 Q ls st h q C hRf hRl hz hf hc1 hc2 K lsM H locs cells slots hl hP hS hc hs
  obtain ⟨hx, hb, hml, hown, hts, hwd, hba, hlk, hnm⟩ := C
  simp only [o_ldI] at hf
  split at hf
  · rename_i x hx1
    cases hf
    exact lv_iload hx hb hd (s_lr_get hl hx1 (fun e => (nomatch e))) (K lsM H locs cells slots hl hP hS hc hs)
  · cases hf
theorem s_ldLn {i : Nat} {k : Fin 4} (hd : decode cc pc = .ok (.lload_n k, 1)) (hi : (k : Nat) = i) : s_Op Ts cl tb y cc pc (o_ldL i (pc + 1)) := by
  intro base oa cA D O p l e R s m args below meth c nL c0 s0 Q ls st h q C hRf hRl hz hf hc1 hc2 K lsM H locs cells slots hl hP hS hc hs
  obtain ⟨hx, hb, hml, hown, hts, hwd, hba, hlk, hnm⟩ := C
  simp only [o_ldL] at hf
  split at hf
  · rename_i x hx1
    cases hf
    exact lv_lload_n hx hb hd hi (s_lr_get hl hx1 (fun e => (nomatch e))) (K lsM H locs cells slots hl hP hS hc hs)
  · cases hf
theorem s_ldL {i : Nat} (hd : decode cc pc = .ok (.lload i, 2)) : s_Op Ts cl tb y cc pc (o_ldL i (pc + 2)) := by
  intro base oa cA D O p l e R s m args below meth c nL c0 s0 Q ls st h q C hRf hRl hz hf hc1 hc2 K lsM H locs cells slots hl hP hS hc hs
  obtain ⟨hx, hb, hml, hown, hts, hwd, hba, hlk, hnm⟩ := C
  simp only [o_ldL] at hf
  split at hf
  · rename_i x hx1
    cases hf
    exact lv_lload hx hb hd (s_lr_get hl hx1 (fun e => (nomatch e))) (K lsM H locs cells slots hl hP hS hc hs)
  · cases hf
theorem s_ldAn {i : Nat} {k : Fin 4} (hd : decode cc pc = .ok (.aload_n k, 1)) (hi : (k : Nat) = i) : s_Op Ts cl tb y cc pc (o_ldA i (pc + 1)) := by
  intro base oa cA D O p l e R s m args below meth c nL c0 s0 Q ls st h q C hRf hRl hz hf hc1 hc2 K lsM H locs cells slots hl hP hS hc hs
  obtain ⟨hx, hb, hml, hown, hts, hwd, hba, hlk, hnm⟩ := C
  simp only [o_ldA] at hf
  split at hf
  · rename_i x hx1
    cases hf
    exact lv_aload_n hx hb hd hi (s_lr_get hl hx1 (fun e => (nomatch e))) (K lsM H locs cells slots hl hP hS hc hs)
  · rename_i x hx1
    cases hf
    exact lv_aload_n hx hb hd hi (s_lr_get hl hx1 (fun e => (nomatch e))) (K lsM H locs cells slots hl hP hS hc hs)
  · cases hf
theorem s_ldA {i : Nat} (hd : decode cc pc = .ok (.aload i, 2)) : s_Op Ts cl tb y cc pc (o_ldA i (pc + 2)) := by
  intro base oa cA D O p l e R s m args below meth c nL c0 s0 Q ls st h q C hRf hRl hz hf hc1 hc2 K lsM H locs cells slots hl hP hS hc hs
  obtain ⟨hx, hb, hml, hown, hts, hwd, hba, hlk, hnm⟩ := C
  simp only [o_ldA] at hf
  split at hf
  · rename_i x hx1
    cases hf
    exact lv_aload hx hb hd (s_lr_get hl hx1 (fun e => (nomatch e))) (K lsM H locs cells slots hl hP hS hc hs)
  · rename_i x hx1
    cases hf
    exact lv_aload hx hb hd (s_lr_get hl hx1 (fun e => (nomatch e))) (K lsM H locs cells slots hl hP hS hc hs)
  · cases hf
theorem s_mo_ldI (i nx : Nat) : s_mo (o_ldI i nx) := s_mo_same fun O ls st h q hf => by
  simp only [o_ldI] at hf
  split at hf
  all_goals first | (cases hf; rfl) | (cases hf; done)
theorem s_mo_ldL (i nx : Nat) : s_mo (o_ldL i nx) := s_mo_same fun O ls st h q hf => by
  simp only [o_ldL] at hf
  split at hf
  all_goals first | (cases hf; rfl) | (cases hf; done)
theorem s_mo_ldA (i nx : Nat) : s_mo (o_ldA i nx) := s_mo_same fun O ls st h q hf => by
  simp only [o_ldA] at hf
  split at hf
  all_goals first | (cases hf; rfl) | (cases hf; done)
theorem s_stIn {i : Nat} {k : Fin 4} (hd : decode cc pc = .ok (.istore_n k, 1)) (hi : (k : Nat) = i) : s_Op Ts cl tb y cc pc (o_stI i (pc + 1)) := by
  intro base oa cA D O p l e R s m args below meth c nL c0 s0 Q ls st h q C hRf hRl hz hf hc1 hc2 K lsM H locs cells slots hl hP hS hc hs
  obtain ⟨hx, hb, hml, hown, hts, hwd, hba, hlk, hnm⟩ := C
  simp only [o_stI] at hf
  split at hf
  · split at hf
    · rename_i hq
      cases hf
      exact lv_istore_n (lv' := _) hx hb hd hi hl.2 (by rw [← hl.1]; exact hq.1) rfl (fun lsM' hl' => K lsM' H locs cells slots (s_lr_set hl rfl hq.2 hl') hP hS hc hs)
    · cases hf
  · cases hf
theorem s_stI {i : Nat} (hd : decode cc pc = .ok (.istore i, 2)) : s_Op Ts cl tb y cc pc (o_stI i (pc + 2)) := by
  intro base oa cA D O p l e R s m args below meth c nL c0 s0 Q ls st h q C hRf hRl hz hf hc1 hc2 K lsM H locs cells slots hl hP hS hc hs
  obtain ⟨hx, hb, hml, hown, hts, hwd, hba, hlk, hnm⟩ := C
  simp only [o_stI] at hf
  split at hf
  · split at hf
    · rename_i hq
      cases hf
      exact lv_istore (lv' := _) hx hb hd hl.2 (by rw [← hl.1]; exact hq.1) rfl (fun lsM' hl' => K lsM' H locs cells slots (s_lr_set hl rfl hq.2 hl') hP hS hc hs)
    · cases hf
  · cases hf
theorem s_mo_stI (i nx : Nat) : s_mo (o_stI i nx) := s_mo_same fun O ls st h q hf => by
  simp only [o_stI] at hf
  split at hf
  all_goals first | (cases hf; done) | (split at hf <;> first | (cases hf; rfl) | (cases hf; done))
theorem s_stLn {i : Nat} {k : Fin 4} (hd : decode cc pc = .ok (.lstore_n k, 1)) (hi : (k : Nat) = i) : s_Op Ts cl tb y cc pc (o_stL i (pc + 1)) := by
  intro base oa cA D O p l e R s m args below meth c nL c0 s0 Q ls st h q C hRf hRl hz hf hc1 hc2 K lsM H locs cells slots hl hP hS hc hs
  obtain ⟨hx, hb, hml, hown, hts, hwd, hba, hlk, hnm⟩ := C
  simp only [o_stL] at hf
  split at hf
  · split at hf
    · rename_i hq
      cases hf
      exact lv_lstore_n (lv' := _) hx hb hd hi hl.2 (by rw [← hl.1]; exact hq.1) rfl (fun lsM' hl' => K lsM' H locs cells slots (s_lr_set2 hl rfl hq.2 hl') hP hS hc hs)
    · cases hf
  · cases hf
theorem s_stL {i : Nat} (hd : decode cc pc = .ok (.lstore i, 2)) : s_Op Ts cl tb y cc pc (o_stL i (pc + 2)) := by
  intro base oa cA D O p l e R s m args below meth c nL c0 s0 Q ls st h q C hRf hRl hz hf hc1 hc2 K lsM H locs cells slots hl hP hS hc hs
  obtain ⟨hx, hb, hml, hown, hts, hwd, hba, hlk, hnm⟩ := C
  simp only [o_stL] at hf
  split at hf
  · split at hf
    · rename_i hq
      cases hf
      exact lv_lstore (lv' := _) hx hb hd hl.2 (by rw [← hl.1]; exact hq.1) rfl (fun lsM' hl' => K lsM' H locs cells slots (s_lr_set2 hl rfl hq.2 hl') hP hS hc hs)
    · cases hf
  · cases hf
theorem s_mo_stL (i nx : Nat) : s_mo (o_stL i nx) := s_mo_same fun O ls st h q hf => by
  simp only [o_stL] at hf
  split at hf
  all_goals first | (cases hf; done) | (split at hf <;> first | (cases hf; rfl) | (cases hf; done))
theorem s_stAn {i : Nat} {k : Fin 4} (hd : decode cc pc = .ok (.astore_n k, 1)) (hi : (k : Nat) = i) : s_Op Ts cl tb y cc pc (o_stA i (pc + 1)) := by
  intro base oa cA D O p l e R s m args below meth c nL c0 s0 Q ls st h q C hRf hRl hz hf hc1 hc2 K lsM H locs cells slots hl hP hS hc hs
  obtain ⟨hx, hb, hml, hown, hts, hwd, hba, hlk, hnm⟩ := C
  simp only [o_stA] at hf
  split at hf
  · split at hf
    · rename_i hq
      cases hf
      exact lv_astore_n (lv' := _) hx hb hd hi hl.2 (by rw [← hl.1]; exact hq.1) rfl (fun lsM' hl' => K lsM' H locs cells slots (s_lr_set hl rfl hq.2 hl') hP hS hc hs)
    · cases hf
  · split at hf
    · rename_i hq
      cases hf
      exact lv_astore_n (lv' := _) hx hb hd hi hl.2 (by rw [← hl.1]; exact hq.1) rfl (fun lsM' hl' => K lsM' H locs cells slots (s_lr_set hl rfl hq.2 hl') hP hS hc hs)
    · cases hf
  · cases hf
theorem s_stA {i : Nat} (hd : decode cc pc = .ok (.astore i, 2)) : s_Op Ts cl tb y cc pc (o_stA i (pc + 2)) := by
  intro base oa cA D O p l e R s m args below meth c nL c0 s0 Q ls st h q C hRf hRl hz hf hc1 hc2 K lsM H locs cells slots hl hP hS hc hs
  obtain ⟨hx, hb, hml, hown, hts, hwd, hba, hlk, hnm⟩ := C
  simp only [o_stA] at hf
  split at hf
  · split at hf
    · rename_i hq
      cases hf
      exact lv_astore (lv' := _) hx hb hd hl.2 (by rw [← hl.1]; exact hq.1) rfl (fun lsM' hl' => K lsM' H locs cells slots (s_lr_set hl rfl hq.2 hl') hP hS hc hs)
    · cases hf
  · split at hf
    · rename_i hq
      cases hf
      exact lv_astore (lv' := _) hx hb hd hl.2 (by rw [← hl.1]; exact hq.1) rfl (fun lsM' hl' => K lsM' H locs cells slots (s_lr_set hl rfl hq.2 hl') hP hS hc hs)
    · cases hf
  · cases hf
theorem s_mo_stA (i nx : Nat) : s_mo (o_stA i nx) := s_mo_same fun O ls st h q hf => by
  simp only [o_stA] at hf
  split at hf
  all_goals first | (cases hf; done) | (split at hf <;> first | (cases hf; rfl) | (cases hf; done))
theorem s_inc {i : Nat} {n : Int} {v : Int32} (hd : decode cc pc = .ok (.iinc i n, 3)) (hv : Int32.ofInt n = v) : s_Op Ts cl tb y cc pc (o_inc i v (pc + 3)) := by
  intro base oa cA D O p l e R s m args below meth c nL c0 s0 Q ls st h q C hRf hRl hz hf hc1 hc2 K lsM H locs cells slots hl hP hS hc hs
  obtain ⟨hx, hb, hml, hown, hts, hwd, hba, hlk, hnm⟩ := C
  simp only [o_inc] at hf
  split at hf
  · rename_i x hx1
    split at hf
    · rename_i hq
      cases hf
      have hmem : (i, Value.int x) ∈ s_la base oa ls := s_la_mem.mpr ⟨.int x, hx1, (fun e => (nomatch e)), rfl⟩
      obtain ⟨k, hk⟩ := List.getElem?_of_mem hmem
      exact lv_iinc (lv' := _) hx hb hd hl.2 hk (by rw [hv]) (by rw [← hl.1]; exact (List.getElem?_eq_some_iff.mp hx1).1) rfl (fun lsM' hl' => K lsM' H locs cells slots (s_lr_set hl rfl hq hl') hP hS hc hs)
    · cases hf
  · cases hf
theorem s_mo_inc (i : Nat) (v : Int32) (nx : Nat) : s_mo (o_inc i v nx) := s_mo_same fun O ls st h q hf => by
  simp only [o_inc] at hf
  split at hf
  · split at hf
    · cases hf; rfl
    · cases hf
  · cases hf
theorem s_iadd (hd : decode cc pc = .ok (.iadd, 1)) : s_Op Ts cl tb y cc pc (o_bin (fun x y => x + y) (pc + 1)) := by
  intro base oa cA D O p l e R s m args below meth c nL c0 s0 Q ls st h q C hRf hRl hz hf hc1 hc2 K lsM H locs cells slots hl hP hS hc hs
  obtain ⟨hx, hb, hml, hown, hts, hwd, hba, hlk, hnm⟩ := C
  simp only [o_bin] at hf
  split at hf
  · cases hf
    exact lv_iadd hx hb hd (K lsM H locs cells slots hl hP hS hc hs)
  · cases hf
theorem s_isub (hd : decode cc pc = .ok (.isub, 1)) : s_Op Ts cl tb y cc pc (o_bin (fun x y => x - y) (pc + 1)) := by
  intro base oa cA D O p l e R s m args below meth c nL c0 s0 Q ls st h q C hRf hRl hz hf hc1 hc2 K lsM H locs cells slots hl hP hS hc hs
  obtain ⟨hx, hb, hml, hown, hts, hwd, hba, hlk, hnm⟩ := C
  simp only [o_bin] at hf
  split at hf
  · cases hf
    exact lv_isub hx hb hd (K lsM H locs cells slots hl hP hS hc hs)
  · cases hf
theorem s_imul (hd : decode cc pc = .ok (.imul, 1)) : s_Op Ts cl tb y cc pc (o_bin (fun x y => x * y) (pc + 1)) := by
  intro base oa cA D O p l e R s m args below meth c nL c0 s0 Q ls st h q C hRf hRl hz hf hc1 hc2 K lsM H locs cells slots hl hP hS hc hs
  obtain ⟨hx, hb, hml, hown, hts, hwd, hba, hlk, hnm⟩ := C
  simp only [o_bin] at hf
  split at hf
  · cases hf
    exact lv_imul hx hb hd (K lsM H locs cells slots hl hP hS hc hs)
  · cases hf
theorem s_iand (hd : decode cc pc = .ok (.iand, 1)) : s_Op Ts cl tb y cc pc (o_bin (fun x y => x &&& y) (pc + 1)) := by
  intro base oa cA D O p l e R s m args below meth c nL c0 s0 Q ls st h q C hRf hRl hz hf hc1 hc2 K lsM H locs cells slots hl hP hS hc hs
  obtain ⟨hx, hb, hml, hown, hts, hwd, hba, hlk, hnm⟩ := C
  simp only [o_bin] at hf
  split at hf
  · cases hf
    exact lv_iand hx hb hd (K lsM H locs cells slots hl hP hS hc hs)
  · cases hf
theorem s_ior (hd : decode cc pc = .ok (.ior, 1)) : s_Op Ts cl tb y cc pc (o_bin (fun x y => x ||| y) (pc + 1)) := by
  intro base oa cA D O p l e R s m args below meth c nL c0 s0 Q ls st h q C hRf hRl hz hf hc1 hc2 K lsM H locs cells slots hl hP hS hc hs
  obtain ⟨hx, hb, hml, hown, hts, hwd, hba, hlk, hnm⟩ := C
  simp only [o_bin] at hf
  split at hf
  · cases hf
    exact lv_ior hx hb hd (K lsM H locs cells slots hl hP hS hc hs)
  · cases hf
theorem s_ixor (hd : decode cc pc = .ok (.ixor, 1)) : s_Op Ts cl tb y cc pc (o_bin (fun x y => x ^^^ y) (pc + 1)) := by
  intro base oa cA D O p l e R s m args below meth c nL c0 s0 Q ls st h q C hRf hRl hz hf hc1 hc2 K lsM H locs cells slots hl hP hS hc hs
  obtain ⟨hx, hb, hml, hown, hts, hwd, hba, hlk, hnm⟩ := C
  simp only [o_bin] at hf
  split at hf
  · cases hf
    exact lv_ixor hx hb hd (K lsM H locs cells slots hl hP hS hc hs)
  · cases hf
theorem s_ishl (hd : decode cc pc = .ok (.ishl, 1)) : s_Op Ts cl tb y cc pc (o_bin (fun x y => x <<< (y &&& 31)) (pc + 1)) := by
  intro base oa cA D O p l e R s m args below meth c nL c0 s0 Q ls st h q C hRf hRl hz hf hc1 hc2 K lsM H locs cells slots hl hP hS hc hs
  obtain ⟨hx, hb, hml, hown, hts, hwd, hba, hlk, hnm⟩ := C
  simp only [o_bin] at hf
  split at hf
  · cases hf
    exact lv_ishl hx hb hd (K lsM H locs cells slots hl hP hS hc hs)
  · cases hf
theorem s_ishr (hd : decode cc pc = .ok (.ishr, 1)) : s_Op Ts cl tb y cc pc (o_bin (fun x y => x >>> (y &&& 31)) (pc + 1)) := by
  intro base oa cA D O p l e R s m args below meth c nL c0 s0 Q ls st h q C hRf hRl hz hf hc1 hc2 K lsM H locs cells slots hl hP hS hc hs
  obtain ⟨hx, hb, hml, hown, hts, hwd, hba, hlk, hnm⟩ := C
  simp only [o_bin] at hf
  split at hf
  · cases hf
    exact lv_ishr hx hb hd (K lsM H locs cells slots hl hP hS hc hs)
  · cases hf
theorem s_iushr (hd : decode cc pc = .ok (.iushr, 1)) : s_Op Ts cl tb y cc pc (o_bin (fun x y => (x.toUInt32 >>> (y.toUInt32 &&& Int32.toUInt32 31)).toInt32) (pc + 1)) := by
  intro base oa cA D O p l e R s m args below meth c nL c0 s0 Q ls st h q C hRf hRl hz hf hc1 hc2 K lsM H locs cells slots hl hP hS hc hs
  obtain ⟨hx, hb, hml, hown, hts, hwd, hba, hlk, hnm⟩ := C
  simp only [o_bin] at hf
  split at hf
  · cases hf
    exact lv_iushr hx hb hd rfl (K lsM H locs cells slots hl hP hS hc hs)
  · cases hf
theorem s_ineg (hd : decode cc pc = .ok (.ineg, 1)) : s_Op Ts cl tb y cc pc (o_un (fun x => -x) (pc + 1)) := by
  intro base oa cA D O p l e R s m args below meth c nL c0 s0 Q ls st h q C hRf hRl hz hf hc1 hc2 K lsM H locs cells slots hl hP hS hc hs
  obtain ⟨hx, hb, hml, hown, hts, hwd, hba, hlk, hnm⟩ := C
  simp only [o_un] at hf
  split at hf
  · cases hf
    exact lv_ineg hx hb hd (K lsM H locs cells slots hl hP hS hc hs)
  · cases hf
theorem s_i2b (hd : decode cc pc = .ok (.i2b, 1)) : s_Op Ts cl tb y cc pc (o_un (fun x => x.toInt8.toInt32) (pc + 1)) := by
  intro base oa cA D O p l e R s m args below meth c nL c0 s0 Q ls st h q C hRf hRl hz hf hc1 hc2 K lsM H locs cells slots hl hP hS hc hs
  obtain ⟨hx, hb, hml, hown, hts, hwd, hba, hlk, hnm⟩ := C
  simp only [o_un] at hf
  split at hf
  · cases hf
    exact lv_i2b hx hb hd rfl (K lsM H locs cells slots hl hP hS hc hs)
  · cases hf
theorem s_i2c (hd : decode cc pc = .ok (.i2c, 1)) : s_Op Ts cl tb y cc pc (o_un (fun x => (x.toUInt32 % 65536).toInt32) (pc + 1)) := by
  intro base oa cA D O p l e R s m args below meth c nL c0 s0 Q ls st h q C hRf hRl hz hf hc1 hc2 K lsM H locs cells slots hl hP hS hc hs
  obtain ⟨hx, hb, hml, hown, hts, hwd, hba, hlk, hnm⟩ := C
  simp only [o_un] at hf
  split at hf
  · cases hf
    exact lv_i2c hx hb hd rfl (K lsM H locs cells slots hl hP hS hc hs)
  · cases hf
theorem s_idiv (hd : decode cc pc = .ok (.idiv, 1)) : s_Op Ts cl tb y cc pc (o_div (pc + 1)) := by
  intro base oa cA D O p l e R s m args below meth c nL c0 s0 Q ls st h q C hRf hRl hz hf hc1 hc2 K lsM H locs cells slots hl hP hS hc hs
  obtain ⟨hx, hb, hml, hown, hts, hwd, hba, hlk, hnm⟩ := C
  simp only [o_div] at hf
  split at hf
  · split at hf
    · cases hf
    · rename_i hne
      cases hf
      exact lv_idiv hx hb hd hne (K lsM H locs cells slots hl hP hS hc hs)
  · cases hf
theorem s_irem (hd : decode cc pc = .ok (.irem, 1)) : s_Op Ts cl tb y cc pc (o_rem (pc + 1)) := by
  intro base oa cA D O p l e R s m args below meth c nL c0 s0 Q ls st h q C hRf hRl hz hf hc1 hc2 K lsM H locs cells slots hl hP hS hc hs
  obtain ⟨hx, hb, hml, hown, hts, hwd, hba, hlk, hnm⟩ := C
  simp only [o_rem] at hf
  split at hf
  · split at hf
    · cases hf
    · rename_i hne
      cases hf
      exact lv_irem hx hb hd hne (K lsM H locs cells slots hl hP hS hc hs)
  · cases hf
theorem s_ladd (hd : decode cc pc = .ok (.ladd, 1)) : s_Op Ts cl tb y cc pc (o_binL (fun x y => x + y) (pc + 1)) := by
  intro base oa cA D O p l e R s m args below meth c nL c0 s0 Q ls st h q C hRf hRl hz hf hc1 hc2 K lsM H locs cells slots hl hP hS hc hs
  obtain ⟨hx, hb, hml, hown, hts, hwd, hba, hlk, hnm⟩ := C
  simp only [o_binL] at hf
  split at hf
  · cases hf
    exact lv_ladd hx hb hd (K lsM H locs cells slots hl hP hS hc hs)
  · cases hf
theorem s_lsub (hd : decode cc pc = .ok (.lsub, 1)) : s_Op Ts cl tb y cc pc (o_binL (fun x y => x - y) (pc + 1)) := by
  intro base oa cA D O p l e R s m args below meth c nL c0 s0 Q ls st h q C hRf hRl hz hf hc1 hc2 K lsM H locs cells slots hl hP hS hc hs
  obtain ⟨hx, hb, hml, hown, hts, hwd, hba, hlk, hnm⟩ := C
  simp only [o_binL] at hf
  split at hf
  · cases hf
    exact lv_lsub hx hb hd (K lsM H locs cells slots hl hP hS hc hs)
  · cases hf
theorem s_lmul (hd : decode cc pc = .ok (.lmul, 1)) : s_Op Ts cl tb y cc pc (o_binL (fun x y => x * y) (pc + 1)) := by
  intro base oa cA D O p l e R s m args below meth c nL c0 s0 Q ls st h q C hRf hRl hz hf hc1 hc2 K lsM H locs cells slots hl hP hS hc hs
  obtain ⟨hx, hb, hml, hown, hts, hwd, hba, hlk, hnm⟩ := C
  simp only [o_binL] at hf
  split at hf
  · cases hf
    exact lv_lmul hx hb hd (K lsM H locs cells slots hl hP hS hc hs)
  · cases hf
theorem s_ldiv (hd : decode cc pc = .ok (.ldiv, 1)) : s_Op Ts cl tb y cc pc (o_divL (pc + 1)) := by
  intro base oa cA D O p l e R s m args below meth c nL c0 s0 Q ls st h q C hRf hRl hz hf hc1 hc2 K lsM H locs cells slots hl hP hS hc hs
  obtain ⟨hx, hb, hml, hown, hts, hwd, hba, hlk, hnm⟩ := C
  simp only [o_divL] at hf
  split at hf
  · split at hf
    · cases hf
    · rename_i hne
      cases hf
      exact lv_ldiv hx hb hd hne (K lsM H locs cells slots hl hP hS hc hs)
  · cases hf
theorem s_lrem (hd : decode cc pc = .ok (.lrem, 1)) : s_Op Ts cl tb y cc pc (o_remL (pc + 1)) := by
  intro base oa cA D O p l e R s m args below meth c nL c0 s0 Q ls st h q C hRf hRl hz hf hc1 hc2 K lsM H locs cells slots hl hP hS hc hs
  obtain ⟨hx, hb, hml, hown, hts, hwd, hba, hlk, hnm⟩ := C
  simp only [o_remL] at hf
  split at hf
  · split at hf
    · cases hf
    · rename_i hne
      cases hf
      exact lv_lrem hx hb hd hne (K lsM H locs cells slots hl hP hS hc hs)
  · cases hf
theorem s_lcmp (hd : decode cc pc = .ok (.lcmp, 1)) : s_Op Ts cl tb y cc pc (o_lcmp (pc + 1)) := by
  intro base oa cA D O p l e R s m args below meth c nL c0 s0 Q ls st h q C hRf hRl hz hf hc1 hc2 K lsM H locs cells slots hl hP hS hc hs
  obtain ⟨hx, hb, hml, hown, hts, hwd, hba, hlk, hnm⟩ := C
  simp only [o_lcmp] at hf
  split at hf
  · cases hf
    exact W.lcmp hx hb hd (K lsM H locs cells slots hl hP hS hc hs)
  · cases hf
theorem s_i2l (hd : decode cc pc = .ok (.i2l, 1)) : s_Op Ts cl tb y cc pc (o_i2l (pc + 1)) := by
  intro base oa cA D O p l e R s m args below meth c nL c0 s0 Q ls st h q C hRf hRl hz hf hc1 hc2 K lsM H locs cells slots hl hP hS hc hs
  obtain ⟨hx, hb, hml, hown, hts, hwd, hba, hlk, hnm⟩ := C
  simp only [o_i2l] at hf
  split at hf
  · cases hf
    exact lv_i2l hx hb hd rfl (K lsM H locs cells slots hl hP hS hc hs)
  · cases hf
theorem s_l2i (hd : decode cc pc = .ok (.l2i, 1)) : s_Op Ts cl tb y cc pc (o_l2i (pc + 1)) := by
  intro base oa cA D O p l e R s m args below meth c nL c0 s0 Q ls st h q C hRf hRl hz hf hc1 hc2 K lsM H locs cells slots hl hP hS hc hs
  obtain ⟨hx, hb, hml, hown, hts, hwd, hba, hlk, hnm⟩ := C
  simp only [o_l2i] at hf
  split at hf
  · cases hf
    exact lv_l2i hx hb hd rfl (K lsM H locs cells slots hl hP hS hc hs)
  · cases hf
theorem s_dup (hd : decode cc pc = .ok (.dup, 1)) : s_Op Ts cl tb y cc pc (o_dup (pc + 1)) := by
  intro base oa cA D O p l e R s m args below meth c nL c0 s0 Q ls st h q C hRf hRl hz hf hc1 hc2 K lsM H locs cells slots hl hP hS hc hs
  obtain ⟨hx, hb, hml, hown, hts, hwd, hba, hlk, hnm⟩ := C
  simp only [o_dup] at hf
  split at hf
  · split at hf
    · rename_i hq
      cases hf
      exact lv_dup hx hb hd (by rw [s_tv_cat]; exact hq) (K lsM H locs cells slots hl hP hS hc hs)
    · cases hf
  · cases hf
theorem s_pop (hd : decode cc pc = .ok (.pop, 1)) : s_Op Ts cl tb y cc pc (o_pop (pc + 1)) := by
  intro base oa cA D O p l e R s m args below meth c nL c0 s0 Q ls st h q C hRf hRl hz hf hc1 hc2 K lsM H locs cells slots hl hP hS hc hs
  obtain ⟨hx, hb, hml, hown, hts, hwd, hba, hlk, hnm⟩ := C
  simp only [o_pop] at hf
  split at hf
  · split at hf
    · rename_i hq
      cases hf
      exact lv_pop hx hb hd (by rw [s_tv_cat]; exact hq) (K lsM H locs cells slots hl hP hS hc hs)
    · cases hf
  · cases hf
theorem s_dup2 (hd : decode cc pc = .ok (.dup2, 1)) : s_Op Ts cl tb y cc pc (o_dup2 (pc + 1)) := by
  intro base oa cA D O p l e R s m args below meth c nL c0 s0 Q ls st h q C hRf hRl hz hf hc1 hc2 K lsM H locs cells slots hl hP hS hc hs
  obtain ⟨hx, hb, hml, hown, hts, hwd, hba, hlk, hnm⟩ := C
  simp only [o_dup2] at hf
  split at hf
  · split at hf
    · rename_i hq
      cases hf
      exact lv_dup2_11 hx hb hd (by rw [s_tv_cat]; exact hq.1) (by rw [s_tv_cat]; exact hq.2) (K lsM H locs cells slots hl hP hS hc hs)
    · cases hf
  · cases hf
theorem s_ifeq {off : Int} {tgt : Nat} (hd : decode cc pc = .ok (.ifCond .eq off, 3)) (ht : (pc : Int) + off = (tgt : Int)) : s_Op Ts cl tb y cc pc (o_ifeq tgt (pc + 3)) := by
  intro base oa cA D O p l e R s m args below meth c nL c0 s0 Q ls st h q C hRf hRl hz hf hc1 hc2 K lsM H locs cells slots hl hP hS hc hs
  obtain ⟨hx, hb, hml, hown, hts, hwd, hba, hlk, hnm⟩ := C
  simp only [o_ifeq] at hf
  split at hf
  · split at hf
    · rename_i hq
      cases hf
      exact lv_if_eq hx hb hd ht (fun _ => K lsM H locs cells slots hl hP hS hc hs) (fun hn => absurd hq hn)
    · rename_i hq
      cases hf
      exact lv_if_eq hx hb hd ht (fun hn => absurd hn hq) (fun _ => K lsM H locs cells slots hl hP hS hc hs)
  · cases hf
theorem s_mo_ifeq (tgt nx : Nat) : s_mo (o_ifeq tgt nx) := s_mo_same fun O ls st h q hf => by
  simp only [o_ifeq] at hf
  split at hf
  · split at hf <;> (cases hf; rfl)
  · cases hf
theorem s_iceq {off : Int} {tgt : Nat} (hd : decode cc pc = .ok (.if_icmp .eq off, 3)) (ht : (pc : Int) + off = (tgt : Int)) : s_Op Ts cl tb y cc pc (o_iceq tgt (pc + 3)) := by
  intro base oa cA D O p l e R s m args below meth c nL c0 s0 Q ls st h q C hRf hRl hz hf hc1 hc2 K lsM H locs cells slots hl hP hS hc hs
  obtain ⟨hx, hb, hml, hown, hts, hwd, hba, hlk, hnm⟩ := C
  simp only [o_iceq] at hf
  split at hf
  · split at hf
    · rename_i hq
      cases hf
      exact lv_icmp_eq hx hb hd ht (fun _ => K lsM H locs cells slots hl hP hS hc hs) (fun hn => absurd hq hn)
    · rename_i hq
      cases hf
      exact lv_icmp_eq hx hb hd ht (fun hn => absurd hn hq) (fun _ => K lsM H locs cells slots hl hP hS hc hs)
  · cases hf
theorem s_mo_iceq (tgt nx : Nat) : s_mo (o_iceq tgt nx) := s_mo_same fun O ls st h q hf => by
  simp only [o_iceq] at hf
  split at hf
  · split at hf <;> (cases hf; rfl)
  · cases hf
theorem s_ifne {off : Int} {tgt : Nat} (hd : decode cc pc = .ok (.ifCond .ne off, 3)) (ht : (pc : Int) + off = (tgt : Int)) : s_Op Ts cl tb y cc pc (o_ifne tgt (pc + 3)) := by
  intro base oa cA D O p l e R s m args below meth c nL c0 s0 Q ls st h q C hRf hRl hz hf hc1 hc2 K lsM H locs cells slots hl hP hS hc hs
  obtain ⟨hx, hb, hml, hown, hts, hwd, hba, hlk, hnm⟩ := C
  simp only [o_ifne] at hf
  split at hf
  · split at hf
    · rename_i hq
      cases hf
      exact lv_if_ne hx hb hd ht (fun hn => absurd hq hn) (fun _ => K lsM H locs cells slots hl hP hS hc hs)
    · rename_i hq
      cases hf
      exact lv_if_ne hx hb hd ht (fun _ => K lsM H locs cells slots hl hP hS hc hs) (fun hn => absurd hn hq)
  · cases hf
theorem s_mo_ifne (tgt nx : Nat) : s_mo (o_ifne tgt nx) := s_mo_same fun O ls st h q hf => by
  simp only [o_ifne] at hf
  split at hf
  · split at hf <;> (cases hf; rfl)
  · cases hf
theorem s_icne {off : Int} {tgt : Nat} (hd : decode cc pc = .ok (.if_icmp .ne off, 3)) (ht : (pc : Int) + off = (tgt : Int)) : s_Op Ts cl tb y cc pc (o_icne tgt (pc + 3)) := by
  intro base oa cA D O p l e R s m args below meth c nL c0 s0 Q ls st h q C hRf hRl hz hf hc1 hc2 K lsM H locs cells slots hl hP hS hc hs
  obtain ⟨hx, hb, hml, hown, hts, hwd, hba, hlk, hnm⟩ := C
  simp only [o_icne] at hf
  split at hf
  · split at hf
    · rename_i hq
      cases hf
      exact lv_icmp_ne hx hb hd ht (fun hn => absurd hq hn) (fun _ => K lsM H locs cells slots hl hP hS hc hs)
    · rename_i hq
      cases hf
      exact lv_icmp_ne hx hb hd ht (fun _ => K lsM H locs cells slots hl hP hS hc hs) (fun hn => absurd hn hq)
  · cases hf
theorem s_mo_icne (tgt nx : Nat) : s_mo (o_icne tgt nx) := s_mo_same fun O ls st h q hf => by
  simp only [o_icne] at hf
  split at hf
  · split at hf <;> (cases hf; rfl)
  · cases hf
theorem s_iflt {off : Int} {tgt : Nat} (hd : decode cc pc = .ok (.ifCond .lt off, 3)) (ht : (pc : Int) + off = (tgt : Int)) : s_Op Ts cl tb y cc pc (o_iflt tgt (pc + 3)) := by
  intro base oa cA D O p l e R s m args below meth c nL c0 s0 Q ls st h q C hRf hRl hz hf hc1 hc2 K lsM H locs cells slots hl hP hS hc hs
  obtain ⟨hx, hb, hml, hown, hts, hwd, hba, hlk, hnm⟩ := C
  simp only [o_iflt] at hf
  split at hf
  · split at hf
    · rename_i hq
      cases hf
      exact lv_if_lt hx hb hd ht (fun _ => K lsM H locs cells slots hl hP hS hc hs) (fun hn => absurd hq hn)
    · rename_i hq
      cases hf
      exact lv_if_lt hx hb hd ht (fun hn => absurd hn hq) (fun _ => K lsM H locs cells slots hl hP hS hc hs)
  · cases hf
theorem s_mo_iflt (tgt nx : Nat) : s_mo (o_iflt tgt nx) := s_mo_same fun O ls st h q hf => by
  simp only [o_iflt] at hf
  split at hf
  · split at hf <;> (cases hf; rfl)
  · cases hf
theorem s_iclt {off : Int} {tgt : Nat} (hd : decode cc pc = .ok (.if_icmp .lt off, 3)) (ht : (pc : Int) + off = (tgt : Int)) : s_Op Ts cl tb y cc pc (o_iclt tgt (pc + 3)) := by
  intro base oa cA D O p l e R s m args below meth c nL c0 s0 Q ls st h q C hRf hRl hz hf hc1 hc2 K lsM H locs cells slots hl hP hS hc hs
  obtain ⟨hx, hb, hml, hown, hts, hwd, hba, hlk, hnm⟩ := C
  simp only [o_iclt] at hf
  split at hf
  · split at hf
    · rename_i hq
      cases hf
      exact lv_icmp_lt hx hb hd ht (fun _ => K lsM H locs cells slots hl hP hS hc hs) (fun hn => absurd hq hn)
    · rename_i hq
      cases hf
      exact lv_icmp_lt hx hb hd ht (fun hn => absurd hn hq) (fun _ => K lsM H locs cells slots hl hP hS hc hs)
  · cases hf
theorem s_mo_iclt (tgt nx : Nat) : s_mo (o_iclt tgt nx) := s_mo_same fun O ls st h q hf => by
  simp only [o_iclt] at hf
  split at hf
  · split at hf <;> (cases hf; rfl)
  · cases hf
theorem s_ifge {off : Int} {tgt : Nat} (hd : decode cc pc = .ok (.ifCond .ge off, 3)) (ht : (pc : Int) + off = (tgt : Int)) : s_Op Ts cl tb y cc pc (o_ifge tgt (pc + 3)) := by
  intro base oa cA D O p l e R s m args below meth c nL c0 s0 Q ls st h q C hRf hRl hz hf hc1 hc2 K lsM H locs cells slots hl hP hS hc hs
  obtain ⟨hx, hb, hml, hown, hts, hwd, hba, hlk, hnm⟩ := C
  simp only [o_ifge] at hf
  split at hf
  · split at hf
    · rename_i hq
      cases hf
      exact lv_if_ge hx hb hd ht (fun _ => K lsM H locs cells slots hl hP hS hc hs) (fun hn => absurd hq hn)
    · rename_i hq
      cases hf
      exact lv_if_ge hx hb hd ht (fun hn => absurd hn hq) (fun _ => K lsM H locs cells slots hl hP hS hc hs)
  · cases hf
theorem s_mo_ifge (tgt nx : Nat) : s_mo (o_ifge tgt nx) := s_mo_same fun O ls st h q hf => by
  simp only [o_ifge] at hf
  split at hf
  · split at hf <;> (cases hf; rfl)
  · cases hf
theorem s_icge {off : Int} {tgt : Nat} (hd : decode cc pc = .ok (.if_icmp .ge off, 3)) (ht : (pc : Int) + off = (tgt : Int)) : s_Op Ts cl tb y cc pc (o_icge tgt (pc + 3)) := by
  intro base oa cA D O p l e R s m args below meth c nL c0 s0 Q ls st h q C hRf hRl hz hf hc1 hc2 K lsM H locs cells slots hl hP hS hc hs
  obtain ⟨hx, hb, hml, hown, hts, hwd, hba, hlk, hnm⟩ := C
  simp only [o_icge] at hf
  split at hf
  · split at hf
    · rename_i hq
      cases hf
      exact lv_icmp_ge hx hb hd ht (fun _ => K lsM H locs cells slots hl hP hS hc hs) (fun hn => absurd hq hn)
    · rename_i hq
      cases hf
      exact lv_icmp_ge hx hb hd ht (fun hn => absurd hn hq) (fun _ => K lsM H locs cells slots hl hP hS hc hs)
  · cases hf
theorem s_mo_icge (tgt nx : Nat) : s_mo (o_icge tgt nx) := s_mo_same fun O ls st h q hf => by
  simp only [o_icge] at hf
  split at hf
  · split at hf <;> (cases hf; rfl)
  · cases hf
theorem s_ifgt {off : Int} {tgt : Nat} (hd : decode cc pc = .ok (.ifCond .gt off, 3)) (ht : (pc : Int) + off = (tgt : Int)) : s_Op Ts cl tb y cc pc (o_ifgt tgt (pc + 3)) := by
  intro base oa cA D O p l e R s m args below meth c nL c0 s0 Q ls st h q C hRf hRl hz hf hc1 hc2 K lsM H locs cells slots hl hP hS hc hs
  obtain ⟨hx, hb, hml, hown, hts, hwd, hba, hlk, hnm⟩ := C
  simp only [o_ifgt] at hf
  split at hf
  · split at hf
    · rename_i hq
      cases hf
      exact lv_if_gt hx hb hd ht (fun _ => K lsM H locs cells slots hl hP hS hc hs) (fun hn => absurd hq hn)
    · rename_i hq
      cases hf
      exact lv_if_gt hx hb hd ht (fun hn => absurd hn hq) (fun _ => K lsM H locs cells slots hl hP hS hc hs)
  · cases hf
theorem s_mo_ifgt (tgt nx : Nat) : s_mo (o_ifgt tgt nx) := s_mo_same fun O ls st h q hf => by
  simp only [o_ifgt] at hf
  split at hf
  · split at hf <;> (cases hf; rfl)
  · cases hf
theorem s_icgt {off : Int} {tgt : Nat} (hd : decode cc pc = .ok (.if_icmp .gt off, 3)) (ht : (pc : Int) + off = (tgt : Int)) : s_Op Ts cl tb y cc pc (o_icgt tgt (pc + 3)) := by
  intro base oa cA D O p l e R s m args below meth c nL c0 s0 Q ls st h q C hRf hRl hz hf hc1 hc2 K lsM H locs cells slots hl hP hS hc hs
  obtain ⟨hx, hb, hml, hown, hts, hwd, hba, hlk, hnm⟩ := C
  simp only [o_icgt] at hf
  split at hf
  · split at hf
    · rename_i hq
      cases hf
      exact lv_icmp_gt hx hb hd ht (fun _ => K lsM H locs cells slots hl hP hS hc hs) (fun hn => absurd hq hn)
    · rename_i hq
      cases hf
      exact lv_icmp_gt hx hb hd ht (fun hn => absurd hn hq) (fun _ => K lsM H locs cells slots hl hP hS hc hs)
  · cases hf
theorem s_mo_icgt (tgt nx : Nat) : s_mo (o_icgt tgt nx) := s_mo_same fun O ls st h q hf => by
  simp only [o_icgt] at hf
  split at hf
  · split at hf <;> (cases hf; rfl)
  · cases hf
theorem s_ifle {off : Int} {tgt : Nat} (hd : decode cc pc = .ok (.ifCond .le off, 3)) (ht : (pc : Int) + off = (tgt : Int)) : s_Op Ts cl tb y cc pc (o_ifle tgt (pc + 3)) := by
  intro base oa cA D O p l e R s m args below meth c nL c0 s0 Q ls st h q C hRf hRl hz hf hc1 hc2 K lsM H locs cells slots hl hP hS hc hs
  obtain ⟨hx, hb, hml, hown, hts, hwd, hba, hlk, hnm⟩ := C
  simp only [o_ifle] at hf
  split at hf
  · split at hf
    · rename_i hq
      cases hf
      exact lv_if_le hx hb hd ht (fun _ => K lsM H locs cells slots hl hP hS hc hs) (fun hn => absurd hq hn)
    · rename_i hq
      cases hf
      exact lv_if_le hx hb hd ht (fun hn => absurd hn hq) (fun _ => K lsM H locs cells slots hl hP hS hc hs)
  · cases hf
theorem s_mo_ifle (tgt nx : Nat) : s_mo (o_ifle tgt nx) := s_mo_same fun O ls st h q hf => by
  simp only [o_ifle] at hf
  split at hf
  · split at hf <;> (cases hf; rfl)
  · cases hf
theorem s_icle {off : Int} {tgt : Nat} (hd : decode cc pc = .ok (.if_icmp .le off, 3)) (ht : (pc : Int) + off = (tgt : Int)) : s_Op Ts cl tb y cc pc (o_icle tgt (pc + 3)) := by
  intro base oa cA D O p l e R s m args below meth c nL c0 s0 Q ls st h q C hRf hRl hz hf hc1 hc2 K lsM H locs cells slots hl hP hS hc hs
  obtain ⟨hx, hb, hml, hown, hts, hwd, hba, hlk, hnm⟩ := C
  simp only [o_icle] at hf
  split at hf
  · split at hf
    · rename_i hq
      cases hf
      exact lv_icmp_le hx hb hd ht (fun _ => K lsM H locs cells slots hl hP hS hc hs) (fun hn => absurd hq hn)
    · rename_i hq
      cases hf
      exact lv_icmp_le hx hb hd ht (fun hn => absurd hn hq) (fun _ => K lsM H locs cells slots hl hP hS hc hs)
  · cases hf
theorem s_mo_icle (tgt nx : Nat) : s_mo (o_icle tgt nx) := s_mo_same fun O ls st h q hf => by
  simp only [o_icle] at hf
  split at hf
  · split at hf <;> (cases hf; rfl)
  · cases hf
theorem s_mo_un (g : Int32 → Int32) (nx : Nat) : s_mo (o_un g nx) := s_mo_same fun O ls st h q hf => by
  simp only [o_un] at hf
  split at hf
  · cases hf; rfl
  · cases hf
theorem s_mo_bin (g : Int32 → Int32 → Int32) (nx : Nat) : s_mo (o_bin g nx) := s_mo_same fun O ls st h q hf => by
  simp only [o_bin] at hf
  split at hf
  · cases hf; rfl
  · cases hf
theorem s_mo_binL (g : Int64 → Int64 → Int64) (nx : Nat) : s_mo (o_binL g nx) := s_mo_same fun O ls st h q hf => by
  simp only [o_binL] at hf
  split at hf
  · cases hf; rfl
  · cases hf
theorem s_mo_lcmp (nx : Nat) : s_mo (o_lcmp nx) := s_mo_same fun O ls st h q hf => by
  simp only [o_lcmp] at hf
  split at hf
  · cases hf; rfl
  · cases hf
theorem s_mo_i2l (nx : Nat) : s_mo (o_i2l nx) := s_mo_same fun O ls st h q hf => by
  simp only [o_i2l] at hf
  split at hf
  · cases hf; rfl
  · cases hf
theorem s_mo_l2i (nx : Nat) : s_mo (o_l2i nx) := s_mo_same fun O ls st h q hf => by
  simp only [o_l2i] at hf
  split at hf
  · cases hf; rfl
  · cases hf
theorem s_mo_div (nx : Nat) : s_mo (o_div nx) := s_mo_same fun O ls st h q hf => by
  simp only [o_div] at hf
  split at hf
  · split at hf <;> first | (cases hf; rfl) | (cases hf; done)
  · cases hf
theorem s_mo_rem (nx : Nat) : s_mo (o_rem nx) := s_mo_same fun O ls st h q hf => by
  simp only [o_rem] at hf
  split at hf
  · split at hf <;> first | (cases hf; rfl) | (cases hf; done)
  · cases hf
theorem s_mo_divL (nx : Nat) : s_mo (o_divL nx) := s_mo_same fun O ls st h q hf => by
  simp only [o_divL] at hf
  split at hf
  · split at hf <;> first | (cases hf; rfl) | (cases hf; done)
  · cases hf
theorem s_mo_remL (nx : Nat) : s_mo (o_remL nx) := s_mo_same fun O ls st h q hf => by
  simp only [o_remL] at hf
  split at hf
  · split at hf <;> first | (cases hf; rfl) | (cases hf; done)
  · cases hf
theorem s_mo_dup (nx : Nat) : s_mo (o_dup nx) := s_mo_same fun O ls st h q hf => by
  simp only [o_dup] at hf
  split at hf
  · split at hf <;> first | (cases hf; rfl) | (cases hf; done)
  · cases hf
theorem s_mo_pop (nx : Nat) : s_mo (o_pop nx) := s_mo_same fun O ls st h q hf => by
  simp only [o_pop] at hf
  split at hf
  · split at hf <;> first | (cases hf; rfl) | (cases hf; done)
  · cases hf
theorem s_mo_dup2 (nx : Nat) : s_mo (o_dup2 nx) := s_mo_same fun O ls st h q hf => by
  simp only [o_dup2] at hf
  split at hf
  · split at hf <;> first | (cases hf; rfl) | (cases hf; done)
  · cases hf
theorem s_table {dflt lo hi : Int} {offs : Array Int} {len : Nat} {tgts : List Nat} {td : Nat} (hd : decode cc pc = .ok (.tableswitch dflt lo hi offs, len)) (ht : (pc : Int) + dflt = (td : Int)) (hlen : hi - lo + 1 = tgts.length) (ho : offs.toList.map (fun o => (pc : Int) + o) = tgts.map (fun t : Nat => (t : Int))) : s_Op Ts cl tb y cc pc (o_table lo tgts td) := by
  intro base oa cA D O p l e R s m args below meth c nL c0 s0 Q ls st h q C hRf hRl hz hf hc1 hc2 K lsM H locs cells slots hl hP hS hc hs
  obtain ⟨hx, hb, hml, hown, hts, hwd, hba, hlk, hnm⟩ := C
  simp only [o_table] at hf
  split at hf
  · rename_i x r
    split at hf
    · rename_i hq
      cases hf
      exact lv_tableOut hx hb hd (Or.inl hq) ht (K lsM H locs cells slots hl hP hS hc hs)
    · rename_i hq
      cases hf
      by_cases hh : hi < x.toInt
      · have he : tgts.getD (x.toInt - lo).toNat td = td := by
          rw [List.getD_eq_getElem?_getD, List.getElem?_eq_none (by omega)]
          rfl
        rw [he] at K
        exact lv_tableOut hx hb hd (Or.inr hh) ht (K lsM H locs cells slots hl hP hS hc hs)
      · have hlt : (x.toInt - lo).toNat < tgts.length := by omega
        have hol : offs.toList.length = tgts.length := by
          have := congrArg List.length ho
          simpa using this
        have hlt2 : (x.toInt - lo).toNat < offs.size := by rw [← Array.length_toList, hol]; exact hlt
        have he := congrArg (fun l => l[(x.toInt - lo).toNat]?) ho
        simp only [List.getElem?_map] at he
        rw [List.getElem?_eq_getElem hlt, List.getElem?_eq_getElem (by rw [hol]; exact hlt)] at he
        simp only [Option.map_some, Option.some.injEq] at he
        rw [List.getD_eq_getElem?_getD, List.getElem?_eq_getElem hlt] at K
        exact lv_tableIn (off := offs[(x.toInt - lo).toNat]) (tgt := tgts[(x.toInt - lo).toNat]) hx hb hd hq hh (Array.getElem?_eq_getElem hlt2) (by simpa using he) (K lsM H locs cells slots hl hP hS hc hs)
  · cases hf
theorem s_mo_table (lo : Int) (tgts : List Nat) (nx : Nat) : s_mo (o_table lo tgts nx) := s_mo_same fun O ls st h q hf => by
  simp only [o_table] at hf
  split at hf
  · split at hf <;> (cases hf; rfl)
  · cases hf
end S2
