/-! Contracts out of runs of the small machine -/
def s_Pc (base : Nat) (oa : Nat → Nat) (cA : Nat → ClassId) (D : va_G) (cl : List vw_C) (O : mO) (tb : sT) (vs : List Value) (h : mH) : Array Value → State → Prop := fun a U =>
  a = (vs.map (s_tv base oa)).toArray ∧ va_P D cl (s_rl base oa cA h.1) U.heap ∧ s_Wd base oa cA D cl O tb U U.heap ∧ base ≤ U.heap.size ∧ (h.2 = 0 → U.heap.size ≤ base + s_nc h)
def s_Qr (base : Nat) (oa : Nat → Nat) (cA : Nat → ClassId) (D : va_G) (cl : List vw_C) (v : Option Value) (hF : mH) : Array Value → State → Outcome → State → Prop := fun _ st o t =>
  o = .returned (v.map (s_tv base oa)) ∧ va_P D cl (s_rl base oa cA hF.1) t.heap ∧ va_F (s_A base) st t
def s_XC (base : Nat) (oa : Nat → Nat) (cA : Nat → ClassId) (D : va_G) (cl : List vw_C) (x : Nat) (hF : mH) : String → State → State → Prop := fun E st t =>
  E = s_ex x ∧ va_P D cl (s_rl base oa cA hF.1) t.heap ∧ va_F (s_A base) st t
def s_no : Array Value → State → Outcome → State → Prop := fun _ _ _ _ => False
def s_rm (d mc ms : Nat) : Room := { frames := d + 10, cells := mc, slots := ms, locals := 41 * d + 200 }
def s_ws (Ts : List Cond) (M : sM) (y : Nat) : List Cond := s_wd M y :: Ts
theorem s_Pc_blind {base : Nat} {oa : Nat → Nat} {cA : Nat → ClassId} {D : va_G} {cl : List vw_C} {O : mO} {tb : sT} {vs : List Value} {h : mH} : FrameBlind (s_Pc base oa cA D cl O tb vs h) := by
  intro a U g mk ⟨h1, h2, h3, h4, h5⟩
  exact ⟨h1, h2, s_Wd.warm (U := U.calling g mk a) (State.WarmedH.refl U) h3, h4, h5⟩
/-- the frame's law for runs of n steps -/
def s_FT (Ts : List Cond) (cl : List vw_C) (tb : sT) (M : sM) (P : Nat → Nat → Option mI) (O : mO) (l : Launch) (base : Nat) (oa : Nat → Nat) (cA : Nat → ClassId) (D : va_G) (n : Nat) : Prop :=
  ∀ (d y pc : Nat) (ls st : List Value) (h : mH) (out : Option Value ⊕ Nat) (hF : mH), m_run P M.2.2.1 O n d y pc ls st h = some (out, hF) →
    ∀ (p : Program) (e : Env) (R : Room) (s : State) (m : MethodId) (args : Array Value) (below : List Frame) (meth : Method) (c : Code) (c0 s0 : Nat) (Q : State → Prop),
      s_Cx base oa cA D cl O tb p s m args meth c (M.2.2.1 y) (M.1 y) (M.2.1 y) Ts → c.exceptionTable.toList = tableOf (M.2.2.2.2 y) → d + 10 ≤ R.frames → 41 * d + 200 ≤ R.locals → (h.2 = 0 → s.heap.size ≤ base + c0) → s_nc hF ≤ R.cells + c0 → s_ns hF ≤ R.slots + s0 →
      (∀ (pc : Nat) (ls st : List Value) (k : Nat) (v : Option Value), out = .inl v → P y pc = some (.inr (.inr (.inl k))) → m_ret k st = some v → s_V base oa cA D cl p l e R s m args below meth c (M.2.2.1 y) c0 s0 Q pc ls st hF) →
      (∀ (pc : Nat) (ls st : List Value) (h1 : mH) (x : Nat), out = .inr x → P y pc = some (.inr (.inr (.inr x))) → hF = (h1.1, h1.2 + 1) → (st.map fun v => v.category).sum ≤ 8 → s_V base oa cA D cl p l e R s m args below meth c (M.2.2.1 y) c0 s0 Q pc ls st h1) →
      (∀ (x pc : Nat) (lsM : Array Slot) (rest : List Value) (H : Heap) (q : Addr) (ce : Cell) (locs : List Loc) (cells slots : Nat), out = .inr x → M.2.2.2.2 y = [] → H[q]? = some ce → ce.vm = .none → s.vm.findClass (s_ex x) = some ce.cls → va_P D cl (s_rl base oa cA hF.1) H → va_S (s_A base) s.heap H locs → cells + c0 = s_nc hF → slots + s0 = s_ns hF →
        vx_W p l e R s m args below meth c H locs cells slots Q (F0 m pc lsM rest) q) →
      s_V base oa cA D cl p l e R s m args below meth c (M.2.2.1 y) c0 s0 Q pc ls st h
/-- a contract out of a body's walk, for a method with or without a table -/
theorem s_ofW {Ts : List Cond} {M : sM} {k : Nat} {l : Launch} {rm : Room} {Pc : Array Value → State → Prop} {F : Array Value → State → Outcome → State → Prop} (hy : plainName (M.1 k).cls = true)
    (body : ∀ p e s m args below meth c s₁, BodyLoose p l (M.1 k) (headSpec (s_ws Ts M k) rm) (M.2.1 k) (M.2.2.1 k) (M.2.2.2.1 k) e s m args below meth c s₁ → c.maxLocals = M.2.2.1 k → c.exceptionTable.toList = tableOf (M.2.2.2.2 k) → Pc args s →
      W p l e (headSpec (s_ws Ts M k) rm).room s m args below meth c s.heap [] 0 0 (fun t => ∃ o, t.status = .running ∧ Ended t below o ∧ F args s o t) (entryFrame m args (M.2.2.1 k))) : MetFree l (M.1 k) (headSpec (s_ws Ts M k) rm) Pc (fun _ _ _ _ _ => True) F := by
  by_cases hE : (M.2.2.2.2 k).isEmpty = true
  · have hw : s_wd M k = .code (M.1 k) (M.2.1 k) (M.2.2.1 k) (M.2.2.2.1 k) := by unfold s_wd; rw [if_pos hE]
    have hmem : Cond.code (M.1 k) (M.2.1 k) (M.2.2.1 k) (M.2.2.2.1 k) ∈ s_ws Ts M k := by unfold s_ws; rw [hw]; exact List.mem_cons_self
    refine MetFree.of_bodyS (code := M.2.1 k) (maxLocals := M.2.2.1 k) (ret := M.2.2.2.1 k) hy ?_ ?_
    · intro args s m h hn
      obtain ⟨meth, c, h1, h2, h3, h4, h5, h6, -, -⟩ := Cond.code_spec hn (atoms_spec (ws := s_ws Ts M k) h _ hmem)
      exact ⟨meth, c, h1, h2, h3, h4, h5, h6⟩
    · intro p e s m args below meth c s₁ B hml hP _
      have hh0 : s₁.heap = s.heap := by rw [B.state]; rfl
      have ht : c.exceptionTable.toList = tableOf (M.2.2.2.2 k) := by
        obtain ⟨meth9, c9, h1, h2, -, -, -, -, h7, -⟩ := Cond.code_spec B.named (atoms_spec (ws := s_ws Ts M k) B.pre _ hmem)
        cases Option.some.inj (h1.symm.trans B.method)
        cases Option.some.inj (h2.symm.trans (Stand.of_body B).code)
        rw [Array.isEmpty_iff.mp h7, List.isEmpty_iff.mp hE]
        rfl
      obtain ⟨t, a1, o, b1, b2, b3⟩ := body p e s m args below meth c s₁ B hml ht hP s₁ hh0 (Stand.of_body B)
      exact ⟨t, o, a1, b1, b2, b3⟩
  · have hw : s_wd M k = .codeWith (M.1 k) (M.2.1 k) (M.2.2.1 k) (M.2.2.2.1 k) (M.2.2.2.2 k) := by unfold s_wd; rw [if_neg hE]
    have hmem : Cond.codeWith (M.1 k) (M.2.1 k) (M.2.2.1 k) (M.2.2.2.1 k) (M.2.2.2.2 k) ∈ s_ws Ts M k := by unfold s_ws; rw [hw]; exact List.mem_cons_self
    refine MetFree.of_bodyS (code := M.2.1 k) (maxLocals := M.2.2.1 k) (ret := M.2.2.2.1 k) hy ?_ ?_
    · intro args s m h hn
      obtain ⟨m9, meth, c, hn9, h1, h2, h3, h4, -, h5, h6, -⟩ := Cond.codeWith_spec (atoms_spec (ws := s_ws Ts M k) h _ hmem)
      cases hn.symm.trans hn9
      exact ⟨meth, c, h1, h2, h3, h4, h5, h6⟩
    · intro p e s m args below meth c s₁ B hml hP _
      have hh0 : s₁.heap = s.heap := by rw [B.state]; rfl
      have ht : c.exceptionTable.toList = tableOf (M.2.2.2.2 k) := vx_table (x := M.1 k) B (atoms_spec (ws := s_ws Ts M k) B.pre _ hmem)
      obtain ⟨t, a1, o, b1, b2, b3⟩ := body p e s m args below meth c s₁ B hml ht hP s₁ hh0 (Stand.of_body B)
      exact ⟨t, o, a1, b1, b2, b3⟩
section S6
variable {Ts : List Cond} {cl : List vw_C} {tb : sT} {M : sM} {P : Nat → Nat → Option mI} {O : mO} {l : Launch} {base : Nat} {oa : Nat → Nat} {cA : Nat → ClassId} {D : va_G}
/-- the frame of a method that has just been called -/
theorem s_body {n d k : Nat} {vs : List Value} {h : mH} {out : Option Value ⊕ Nat} {hF : mH} (hFT : s_FT Ts cl tb M P O l base oa cA D n) (hr : m_run P M.2.2.1 O n d k 0 (m_ent (M.2.2.1 k) vs) [] h = some (out, hF)) (ha : (m_args vs).length ≤ M.2.2.1 k) (hle : s_nc h ≤ s_nc hF ∧ s_ns h ≤ s_ns hF)
    {p : Program} {e : Env} {s : State} {m : MethodId} {args : Array Value} {below : List Frame} {meth : Method} {c : Code} {s₁ : State}
    (B : BodyLoose p l (M.1 k) (headSpec (s_ws Ts M k) (s_rm d (s_nc hF - s_nc h) (s_ns hF - s_ns h))) (M.2.1 k) (M.2.2.1 k) (M.2.2.2.1 k) e s m args below meth c s₁) (hml : c.maxLocals = M.2.2.1 k) (htab : c.exceptionTable.toList = tableOf (M.2.2.2.2 k)) (hPc : s_Pc base oa cA D cl O tb vs h args s) {Q : State → Prop}
    (k1 : s_Cx base oa cA D cl O tb p s m args meth c (M.2.2.1 k) (M.1 k) (M.2.1 k) Ts → ∀ (pc : Nat) (ls st : List Value) (k' : Nat) (v : Option Value), out = .inl v → P k pc = some (.inr (.inr (.inl k'))) → m_ret k' st = some v → s_V base oa cA D cl p l e (s_rm d (s_nc hF - s_nc h) (s_ns hF - s_ns h)) s m args below meth c (M.2.2.1 k) (s_nc h) (s_ns h) Q pc ls st hF)
    (k2 : s_Cx base oa cA D cl O tb p s m args meth c (M.2.2.1 k) (M.1 k) (M.2.1 k) Ts → ∀ (pc : Nat) (ls st : List Value) (h1 : mH) (x : Nat), out = .inr x → P k pc = some (.inr (.inr (.inr x))) → hF = (h1.1, h1.2 + 1) → (st.map fun v => v.category).sum ≤ 8 → s_V base oa cA D cl p l e (s_rm d (s_nc hF - s_nc h) (s_ns hF - s_ns h)) s m args below meth c (M.2.2.1 k) (s_nc h) (s_ns h) Q pc ls st h1)
    (k3 : s_Cx base oa cA D cl O tb p s m args meth c (M.2.2.1 k) (M.1 k) (M.2.1 k) Ts → ∀ (x pc : Nat) (lsM : Array Slot) (rest : List Value) (H : Heap) (q : Addr) (ce : Cell) (locs : List Loc) (cells slots : Nat), out = .inr x → M.2.2.2.2 k = [] → H[q]? = some ce → ce.vm = .none → s.vm.findClass (s_ex x) = some ce.cls → va_P D cl (s_rl base oa cA hF.1) H → va_S (s_A base) s.heap H locs → cells + s_nc h = s_nc hF → slots + s_ns h = s_ns hF →
        vx_W p l e (s_rm d (s_nc hF - s_nc h) (s_ns hF - s_ns h)) s m args below meth c H locs cells slots Q (F0 m pc lsM rest) q) :
    W p l e (s_rm d (s_nc hF - s_nc h) (s_ns hF - s_ns h)) s m args below meth c s.heap [] 0 0 Q (entryFrame m args (M.2.2.1 k)) := by
  obtain ⟨rfl, hP, hWd, hba, hz⟩ := hPc
  have hts : ∀ w ∈ Ts, w.before (vs.map (s_tv base oa)).toArray s = true := fun w hw => atoms_spec (ws := s_ws Ts M k) B.pre w (List.mem_cons_of_mem _ hw)
  have C : s_Cx base oa cA D cl O tb p s m (vs.map (s_tv base oa)).toArray meth c (M.2.2.1 k) (M.1 k) (M.2.1 k) Ts := ⟨B.exec, B.bytes, hml, findClass_of_methodNamed B.named, hts, hWd, hba, B.notSynchronized, (name_of_methodNamed B.named B.method).1⟩
  rw [lg_entry_eq]
  have hV := hFT d k 0 (m_ent (M.2.2.1 k) vs) [] h out hF hr p e (s_rm d (s_nc hF - s_nc h) (s_ns hF - s_ns h)) s m (vs.map (s_tv base oa)).toArray below meth c (s_nc h) (s_ns h) Q C htab (Nat.le_refl _) (Nat.le_refl _) hz (by show s_nc hF ≤ (s_nc hF - s_nc h) + s_nc h; omega) (by show s_ns hF ≤ (s_ns hF - s_ns h) + s_ns h; omega) (k1 C) (k2 C) (k3 C)
  exact hV _ _ _ 0 0 (s_ent ha) hP va_S.rf (by omega) (by omega)
/-- a return of what the small machine returns -/
theorem s_return {y pc k : Nat} {st : List Value} {v : Option Value} {ls : List Value} {hF : mH} (hs : s_rsite M y pc k) (hm : m_ret k st = some v)
    {p : Program} {e : Env} {R : Room} {s : State} {m : MethodId} {args : Array Value} {below : List Frame} {meth : Method} {c : Code} {nL c0 s0 mc ms : Nat} (hx : p.tables.exec = Jvm.exec) (hb : c.code = M.2.1 y) (hlk : meth.locks = false) (hrt : meth.sig.returnType = M.2.2.2.1 y) (hmc : mc + c0 = s_nc hF) (hms : ms + s0 = s_ns hF) :
    s_V base oa cA D cl p l e R s m args below meth c nL c0 s0 (MQ below (s_Qr base oa cA D cl v hF) args s mc ms (s_A base)) pc ls st hF := by
  intro lsM H locs cells slots hl hP hS hc hs'
  have e1 : cells = mc := by omega
  have e2 : slots = ms := by omega
  subst e1; subst e2
  have hq : ∀ t : State, t.heap = H → s.WarmedH t.vm → s_Qr base oa cA D cl v hF args s (.returned (v.map (s_tv base oa))) t := fun t ht _ => ⟨rfl, by rw [ht]; exact hP, hS.F ht⟩
  rcases hs with ⟨rfl, h1, h2⟩ | ⟨rfl, h1, h2⟩ | ⟨rfl, h1, h2⟩ | ⟨rfl, h1, h2⟩ | ⟨rfl, ⟨rt, h1, h3⟩, h2⟩ | ⟨rfl, h1, h2⟩ | ⟨rfl, h1, h2⟩
  all_goals unfold m_ret at hm
  · split at hm
    all_goals first | (cases hm; done) | skip
    all_goals first | (rename_i hk; cases hk; done) | skip
    cases hm
    exact W.vret hx hb (hrt.trans h1) hq hS.2.2 h2
  · split at hm
    all_goals first | (cases hm; done) | skip
    all_goals first | (rename_i hk; cases hk; done) | skip
    cases hm
    exact W.iret hx hb (hrt.trans h1) hq hS.2.2 h2
  · split at hm
    all_goals first | (cases hm; done) | skip
    all_goals first | (rename_i hk; cases hk; done) | skip
    split at hm
    · rename_i hx01
      cases hm
      exact W.zret hx hb (hrt.trans h1) (by rcases hx01 with rfl | rfl <;> rfl) hq hS.2.2 h2
    · cases hm
  · split at hm
    all_goals first | (cases hm; done) | skip
    all_goals first | (rename_i hk; cases hk; done) | skip
    cases hm
    exact W.lret hx hb (hrt.trans h1) hq hS.2.2 h2
  · split at hm
    all_goals first | (cases hm; done) | skip
    all_goals first | (rename_i hk; cases hk; done) | skip
    all_goals (cases hm; exact W.aret hx hb (hrt.trans h1) h3 (Or.inr ⟨_, rfl⟩) hq hS.2.2 h2)
  · split at hm
    all_goals first | (cases hm; done) | skip
    all_goals first | (rename_i hk; cases hk; done) | skip
    split at hm
    · rename_i hx01
      cases hm
      exact W.zret hx hb (hrt.trans h1) (by rw [narrow_byte, hx01]) hq hS.2.2 h2
    · cases hm
  · split at hm
    all_goals first | (cases hm; done) | skip
    all_goals first | (rename_i hk; cases hk; done) | skip
    split at hm
    · rename_i hx01
      cases hm
      exact W.zret (ty := .char) hx hb (hrt.trans h1) (congrArg Value.int hx01) hq hS.2.2 h2
    · cases hm
theorem s_met {n d k : Nat} {vs : List Value} {h : mH} {v : Option Value} {hF : mH} (hPr : s_Prog Ts cl tb M P) (hFT : s_FT Ts cl tb M P O l base oa cA D n) (hr : m_run P M.2.2.1 O n d k 0 (m_ent (M.2.2.1 k) vs) [] h = some (.inl v, hF)) (ha : (m_args vs).length ≤ M.2.2.1 k) (hk : s_ok1 Ts M k) :
    Met l (M.1 k) (s_ws Ts M k) (s_rm d (s_nc hF - s_nc h) (s_ns hF - s_ns h)) (s_Pc base oa cA D cl O tb vs h) (s_Qr base oa cA D cl v hF) (s_nc hF - s_nc h) (s_ns hF - s_ns h) (s_A base) := by
  have hle := s_run_mo hPr n d k 0 _ _ _ _ hr
  simp only at hle
  refine s_ofW hk.1 fun p e s m args below meth c s₁ B hml htab hPc => ?_
  refine s_body hFT hr ha hle.2 B hml htab hPc ?_ ?_ ?_
  · intro C pc ls st k' v' hv hp hm
    cases hv
    exact s_return (hPr.2.2 k pc _ hp) hm C.1 C.2.1 B.notSynchronized B.returns (by omega) (by omega)
  · intro C pc ls st h1 x hx; cases hx
  · intro C x pc lsM rest H q ce locs cells slots hx; cases hx
theorem s_mex {n d k : Nat} {vs : List Value} {h : mH} {x : Nat} {hF : mH} (hst : l.stackTraces = false) (hPr : s_Prog Ts cl tb M P) (hFT : s_FT Ts cl tb M P O l base oa cA D n) (hr : m_run P M.2.2.1 O n d k 0 (m_ent (M.2.2.1 k) vs) [] h = some (.inr x, hF)) (ha : (m_args vs).length ≤ M.2.2.1 k) (hk : s_ok1 Ts M k) :
    vx_Met l (M.1 k) (s_ws Ts M k) (s_rm d (s_nc hF - s_nc h) (s_ns hF - s_ns h)) (s_Pc base oa cA D cl O tb vs h) s_no (s_XC base oa cA D cl x hF) (s_nc hF - s_nc h) (s_ns hF - s_ns h) (s_A base) := by
  have hle := s_run_mo hPr n d k 0 _ _ _ _ hr
  simp only at hle
  refine s_ofW hk.1 fun p e s m args below meth c s₁ B hml htab hPc => ?_
  refine s_body hFT hr ha hle.2 B hml htab hPc ?_ ?_ ?_
  · intro C pc ls st k' v' hv; cases hv
  · intro C pc ls st h1 x' hx hp hF' hsum lsM H locs cells slots hl hP hS hc hs
    cases hx
    obtain ⟨htb, ik, ic, d0, d3, d4, d7, hfit, w1, w2, w3, w4, w5⟩ := hPr.2.2 k pc _ hp
    obtain ⟨hx, hb, hml', hown, hts, hwd, hba, hlk, hnm⟩ := C
    subst hF'
    have e1 : s_nc (h1.1, h1.2 + 1) = s_nc h1 + 1 := by simp [s_nc]; omega
    have e2 : s_ns (h1.1, h1.2 + 1) = s_ns h1 + 6 := by simp [s_ns]; omega
    have hat : ∀ w ∈ vx_at0 (M.1 k).cls ic (s_ex x) s_up, w.before args s = true := by
      intro w hw
      by_cases g : goodWord w = true
      · exact hts w (w3 w (List.mem_filter.mpr ⟨hw, g⟩))
      · rcases w4 w (List.mem_filter.mpr ⟨hw, by simp only [Bool.not_eq_true] at g; simp [g]⟩) with ⟨q, hq, rfl⟩ | ⟨q, hq, rfl⟩
        · exact va_Nw.use rfl (hwd.2.2.2.2.2.2.1 q hq)
        · exact va_Nw.use rfl (hwd.2.2.2.2.2.2.2.1 q hq)
    refine vx_throw0 (names := s_up) hx hb hst hown hfit (by decide +kernel) (hts _ w1) (hts _ w2) hat ?_ hwd.2.2.2.2.2.2.2.2.1 hwd.2.2.2.2.2.2.2.2.2 hS (by rw [hml']; exact hl.2.1) d0 d3 d4 d7 ?_ ?_ ?_ ?_ ?_ hlk ?_ hS.2.2 ?_ ?_
    · intro w hw
      rcases List.mem_cons.mp hw with rfl | hw
      · rfl
      · rcases List.mem_cons.mp hw with rfl | hw
        · rfl
        · exact w5 w hw
    · rw [htab, htb]
      intro x hx
      cases hx
    · show 2 + 3 < d + 10; omega
    · rw [s_cat_sum]; show _ + (13 * (2 + 1) + 42) ≤ 41 * d + 200; omega
    · show cells + 1 ≤ _ - _; rw [e1] at hle ⊢; omega
    · show slots + 6 ≤ _ - _; rw [e2] at hle ⊢; omega
    · intro t hal hz1 hk1
      refine ⟨rfl, hP.kept fun k q hq => hk1 q.1 (hP k q hq).lt, Nat.le_trans hS.1 hz1, fun q q1 q2 => ?_⟩
      rw [hk1 q (Nat.lt_of_lt_of_le q1 hS.1)]
      exact hS.2.1 q q1 q2
    · rw [e1] at hle ⊢; omega
    · rw [e2] at hle ⊢; omega
  · intro C x' pc lsM rest H q ce locs cells slots hx htb hce hcv hcl hP hS hc hs
    cases hx
    refine vx_out (fun x hx => ?_) C.2.2.2.2.2.2.2.1 hce hcv hcl (fun t ht hal => ⟨rfl, by rw [ht]; exact hP, hS.F ht⟩) hS.2.2 (by omega) (by omega)
    rw [htab, htb] at hx
    cases hx
end S6
