/-! Rows, makers, what was there before -/
section S4
variable {Ts : List Cond} {cl : List vw_C} {tb : sT} {y : MethodName} {cc : ByteArray} {pc : Nat}
theorem s_iald (hd : decode cc pc = .ok (.iaload, 1)) : s_Op Ts cl tb y cc pc (o_iald (pc + 1)) := by
  intro base oa cA D O p l e R s m args below meth c nL c0 s0 Q ls st h q C hRf hRl hz hf hc1 hc2 K lsM H locs cells slots hl hP hS hc hs
  obtain ⟨hx, hb, hml, hown, hts, hwd, hba, hlk, hnm⟩ := C
  simp only [o_iald] at hf
  split at hf
  · rename_i i a r
    split at hf
    · rename_i n f ha
      split at hf
      · cases hf
      · rename_i hin
        cases hf
        exact va_iald hx hb hwd.1 hP a 0 (s_rl_get ha) rfl hin hd (K lsM H locs cells slots hl hP hS hc hs)
    · cases hf
  · cases hf
theorem s_mo_iald (nx : Nat) : s_mo (o_iald nx) := s_mo_same fun O ls st h q hf => by
  simp only [o_iald] at hf
  repeat' split at hf
  all_goals first | (cases hf; rfl) | (cases hf; done)
theorem s_bald (hd : decode cc pc = .ok (.baload, 1)) : s_Op Ts cl tb y cc pc (o_bald (pc + 1)) := by
  intro base oa cA D O p l e R s m args below meth c nL c0 s0 Q ls st h q C hRf hRl hz hf hc1 hc2 K lsM H locs cells slots hl hP hS hc hs
  obtain ⟨hx, hb, hml, hown, hts, hwd, hba, hlk, hnm⟩ := C
  simp only [o_bald] at hf
  split at hf
  · rename_i i a r
    split at hf
    · rename_i n f ha
      split at hf
      · cases hf
      · rename_i hin
        cases hf
        exact va_bald hx hb hwd.1 hP a 1 (s_rl_get ha) rfl hin hd (K lsM H locs cells slots hl hP hS hc hs)
    · cases hf
  · cases hf
theorem s_mo_bald (nx : Nat) : s_mo (o_bald nx) := s_mo_same fun O ls st h q hf => by
  simp only [o_bald] at hf
  repeat' split at hf
  all_goals first | (cases hf; rfl) | (cases hf; done)
theorem s_lald (hd : decode cc pc = .ok (.laload, 1)) : s_Op Ts cl tb y cc pc (o_lald (pc + 1)) := by
  intro base oa cA D O p l e R s m args below meth c nL c0 s0 Q ls st h q C hRf hRl hz hf hc1 hc2 K lsM H locs cells slots hl hP hS hc hs
  obtain ⟨hx, hb, hml, hown, hts, hwd, hba, hlk, hnm⟩ := C
  simp only [o_lald] at hf
  split at hf
  · rename_i i a r
    split at hf
    · rename_i n f ha
      split at hf
      · cases hf
      · rename_i hin
        cases hf
        exact va_lald hx hb hwd.1 hP a 2 (s_rl_get ha) rfl hin hd (K lsM H locs cells slots hl hP hS hc hs)
    · cases hf
  · cases hf
theorem s_mo_lald (nx : Nat) : s_mo (o_lald nx) := s_mo_same fun O ls st h q hf => by
  simp only [o_lald] at hf
  repeat' split at hf
  all_goals first | (cases hf; rfl) | (cases hf; done)
theorem s_iast (hd : decode cc pc = .ok (.iastore, 1)) : s_Op Ts cl tb y cc pc (o_iast (pc + 1)) := by
  intro base oa cA D O p l e R s m args below meth c nL c0 s0 Q ls st h q C hRf hRl hz hf hc1 hc2 K lsM H locs cells slots hl hP hS hc hs
  obtain ⟨hx, hb, hml, hown, hts, hwd, hba, hlk, hnm⟩ := C
  simp only [o_iast] at hf
  split at hf
  · rename_i x i a r
    split at hf
    · rename_i n f ha
      split at hf
      · cases hf
      · rename_i hin
        cases hf
        refine va_iast hx hb hwd.1 hP s_rl_D hS a 0 (s_rl_get ha) rfl hin hd (fun H1 locs1 hP1 _ hS1 => ?_)
        refine K lsM H1 locs1 cells slots hl ?_ hS1 (by rw [s_nc_set]; exact hc) (hs.trans (s_ns_set ha (by rfl)).symm)
        rw [s_rl_set]
        exact hP1
    · cases hf
  · cases hf
theorem s_mo_iast (nx : Nat) : s_mo (o_iast nx) := fun O ls st h q hf => by
  simp only [o_iast] at hf
  split at hf
  · split at hf
    · rename_i ha
      split at hf
      · cases hf
      · cases hf; exact s_mo_set ha rfl
    · cases hf
  · cases hf
theorem s_bast (hd : decode cc pc = .ok (.bastore, 1)) : s_Op Ts cl tb y cc pc (o_bast (pc + 1)) := by
  intro base oa cA D O p l e R s m args below meth c nL c0 s0 Q ls st h q C hRf hRl hz hf hc1 hc2 K lsM H locs cells slots hl hP hS hc hs
  obtain ⟨hx, hb, hml, hown, hts, hwd, hba, hlk, hnm⟩ := C
  simp only [o_bast] at hf
  split at hf
  · rename_i x i a r
    split at hf
    · rename_i n f ha
      split at hf
      · cases hf
      · rename_i hin
        cases hf
        refine va_bast hx hb hwd.1 hP s_rl_D hS a 1 (s_rl_get ha) rfl hin hd (fun H1 locs1 hP1 _ hS1 => ?_)
        refine K lsM H1 locs1 cells slots hl ?_ hS1 (by rw [s_nc_set]; exact hc) (hs.trans (s_ns_set ha (by rfl)).symm)
        rw [s_rl_set]
        exact hP1
    · cases hf
  · cases hf
theorem s_mo_bast (nx : Nat) : s_mo (o_bast nx) := fun O ls st h q hf => by
  simp only [o_bast] at hf
  split at hf
  · split at hf
    · rename_i ha
      split at hf
      · cases hf
      · cases hf; exact s_mo_set ha rfl
    · cases hf
  · cases hf
theorem s_last (hd : decode cc pc = .ok (.lastore, 1)) : s_Op Ts cl tb y cc pc (o_last (pc + 1)) := by
  intro base oa cA D O p l e R s m args below meth c nL c0 s0 Q ls st h q C hRf hRl hz hf hc1 hc2 K lsM H locs cells slots hl hP hS hc hs
  obtain ⟨hx, hb, hml, hown, hts, hwd, hba, hlk, hnm⟩ := C
  simp only [o_last] at hf
  split at hf
  · rename_i x i a r
    split at hf
    · rename_i n f ha
      split at hf
      · cases hf
      · rename_i hin
        cases hf
        refine va_last hx hb hwd.1 hP s_rl_D hS a 2 (s_rl_get ha) rfl hin hd (fun H1 locs1 hP1 _ hS1 => ?_)
        refine K lsM H1 locs1 cells slots hl ?_ hS1 (by rw [s_nc_set]; exact hc) (hs.trans (s_ns_set ha (by rfl)).symm)
        rw [s_rl_set]
        exact hP1
    · cases hf
  · cases hf
theorem s_mo_last (nx : Nat) : s_mo (o_last nx) := fun O ls st h q hf => by
  simp only [o_last] at hf
  split at hf
  · split at hf
    · rename_i ha
      split at hf
      · cases hf
      · cases hf; exact s_mo_set ha rfl
    · cases hf
  · cases hf
theorem s_alen (hd : decode cc pc = .ok (.arraylength, 1)) : s_Op Ts cl tb y cc pc (o_alen (pc + 1)) := by
  intro base oa cA D O p l e R s m args below meth c nL c0 s0 Q ls st h q C hRf hRl hz hf hc1 hc2 K lsM H locs cells slots hl hP hS hc hs
  obtain ⟨hx, hb, hml, hown, hts, hwd, hba, hlk, hnm⟩ := C
  simp only [o_alen] at hf
  split at hf
  · rename_i a r
    split at hf
    · rename_i t x ha
      split at hf
      · rename_i ht
        cases hf
        have h3 : ∃ ty, (s_tys cA)[t]? = some (cA t, ty) := by
          rcases (show t = 0 ∨ t = 1 ∨ t = 2 by omega) with rfl | rfl | rfl <;> exact ⟨_, rfl⟩
        obtain ⟨ty, hty⟩ := h3
        exact va_alen hx hb hwd.1 hP a t (s_rl_get ha) hty rfl hd (K lsM H locs cells slots hl hP hS hc hs)
      · cases hf
    · cases hf
  · cases hf
theorem s_mo_alen (nx : Nat) : s_mo (o_alen nx) := s_mo_same fun O ls st h q hf => by
  simp only [o_alen] at hf
  repeat' split at hf
  all_goals first | (cases hf; rfl) | (cases hf; done)
theorem s_getO {i k : Nat} {nd : String × String} (hk : s_sf[k]? = some nd) (hw : Cond.fieldLink y.cls i "java/lang/String" nd.1 nd.2 ∈ Ts) (hd : decode cc pc = .ok (.getfield i, 3)) : s_Op Ts cl tb y cc pc (o_getO k (pc + 3)) := by
  intro base oa cA D O p l e R s m args below meth c nL c0 s0 Q ls st h q C hRf hRl hz hf hc1 hc2 K lsM H locs cells slots hl hP hS hc hs
  obtain ⟨hx, hb, hml, hown, hts, hwd, hba, hlk, hnm⟩ := C
  simp only [o_getO] at hf
  split at hf
  · rename_i a r
    split at hf
    · rename_i ci fs ha
      split at hf
      · rename_i v hv
        cases hf
        exact vk_getf hx hb ((hwd.2.1 _ _ ha).2 k nd v hk hv) hS hown (hts _ hw) (fun _ h => h) hd (K lsM H locs cells slots hl hP hS hc hs)
      · cases hf
    · cases hf
  · cases hf
theorem s_mo_getO (k nx : Nat) : s_mo (o_getO k nx) := s_mo_same fun O ls st h q hf => by
  simp only [o_getO] at hf
  repeat' split at hf
  all_goals first | (cases hf; rfl) | (cases hf; done)
theorem s_ialdO (hd : decode cc pc = .ok (.iaload, 1)) : s_Op Ts cl tb y cc pc (o_ialdO (pc + 1)) := by
  intro base oa cA D O p l e R s m args below meth c nL c0 s0 Q ls st h q C hRf hRl hz hf hc1 hc2 K lsM H locs cells slots hl hP hS hc hs
  obtain ⟨hx, hb, hml, hown, hts, hwd, hba, hlk, hnm⟩ := C
  simp only [o_ialdO] at hf
  split at hf
  · rename_i i a r
    split at hf
    · rename_i n f ha
      split at hf
      · cases hf
      · rename_i hin
        cases hf
        obtain ⟨cell, g1, g2, g3, g4, g5, g6, g7⟩ := (hwd.2.1 _ _ ha).kept hS.2.1
        have hlt : i.toNatClampNeg < n := Nat.not_le.mp fun q => hin (Or.inr q)
        exact W.iald (v := .int (f i.toNatClampNeg)) hx hb g1 g2 g3 (fun z => hin (z.imp id (fun z => Nat.le_trans g4 z))) (g6 _ hlt) rfl rfl hd (K lsM H locs cells slots hl hP hS hc hs)
    · cases hf
  · cases hf
theorem s_mo_ialdO (nx : Nat) : s_mo (o_ialdO nx) := s_mo_same fun O ls st h q hf => by
  simp only [o_ialdO] at hf
  repeat' split at hf
  all_goals first | (cases hf; rfl) | (cases hf; done)
theorem s_baldO (hd : decode cc pc = .ok (.baload, 1)) : s_Op Ts cl tb y cc pc (o_baldO (pc + 1)) := by
  intro base oa cA D O p l e R s m args below meth c nL c0 s0 Q ls st h q C hRf hRl hz hf hc1 hc2 K lsM H locs cells slots hl hP hS hc hs
  obtain ⟨hx, hb, hml, hown, hts, hwd, hba, hlk, hnm⟩ := C
  simp only [o_baldO] at hf
  split at hf
  · rename_i i a r
    split at hf
    · rename_i n f ha
      split at hf
      · cases hf
      · rename_i hin
        cases hf
        obtain ⟨cell, g1, g2, g3, g4, g5, g6, g7⟩ := (hwd.2.1 _ _ ha).kept hS.2.1
        have hlt : i.toNatClampNeg < n := Nat.not_le.mp fun q => hin (Or.inr q)
        exact W.bald (v := .int (f i.toNatClampNeg)) hx hb g1 g2 g3 (fun z => hin (z.imp id (fun z => Nat.le_trans g4 z))) (g6 _ hlt) rfl rfl hd (K lsM H locs cells slots hl hP hS hc hs)
    · cases hf
  · cases hf
theorem s_mo_baldO (nx : Nat) : s_mo (o_baldO nx) := s_mo_same fun O ls st h q hf => by
  simp only [o_baldO] at hf
  repeat' split at hf
  all_goals first | (cases hf; rfl) | (cases hf; done)
theorem s_laldO (hd : decode cc pc = .ok (.laload, 1)) : s_Op Ts cl tb y cc pc (o_laldO (pc + 1)) := by
  intro base oa cA D O p l e R s m args below meth c nL c0 s0 Q ls st h q C hRf hRl hz hf hc1 hc2 K lsM H locs cells slots hl hP hS hc hs
  obtain ⟨hx, hb, hml, hown, hts, hwd, hba, hlk, hnm⟩ := C
  simp only [o_laldO] at hf
  split at hf
  · rename_i i a r
    split at hf
    · rename_i n f ha
      split at hf
      · cases hf
      · rename_i hin
        cases hf
        obtain ⟨cell, g1, g2, g3, g4, g5, g6, g7⟩ := (hwd.2.1 _ _ ha).kept hS.2.1
        have hlt : i.toNatClampNeg < n := Nat.not_le.mp fun q => hin (Or.inr q)
        exact W.lald (v := .long (f i.toNatClampNeg)) hx hb g1 g2 g3 (fun z => hin (z.imp id (fun z => Nat.le_trans g4 z))) (g6 _ hlt) rfl rfl hd (K lsM H locs cells slots hl hP hS hc hs)
    · cases hf
  · cases hf
theorem s_mo_laldO (nx : Nat) : s_mo (o_laldO nx) := s_mo_same fun O ls st h q hf => by
  simp only [o_laldO] at hf
  repeat' split at hf
  all_goals first | (cases hf; rfl) | (cases hf; done)
theorem s_alenO (hd : decode cc pc = .ok (.arraylength, 1)) : s_Op Ts cl tb y cc pc (o_alenO (pc + 1)) := by
  intro base oa cA D O p l e R s m args below meth c nL c0 s0 Q ls st h q C hRf hRl hz hf hc1 hc2 K lsM H locs cells slots hl hP hS hc hs
  obtain ⟨hx, hb, hml, hown, hts, hwd, hba, hlk, hnm⟩ := C
  simp only [o_alenO] at hf
  split at hf
  · rename_i a r
    split at hf
    · rename_i t n f ha
      cases hf
      obtain ⟨cell, g1, g2, g3, g4, g5, g6, g7⟩ := (hwd.2.1 _ _ ha).kept hS.2.1
      exact W.alen hx hb g1 g2 g5 rfl rfl hd (K lsM H locs cells slots hl hP hS hc hs)
    · rename_i t n f ha
      cases hf
      obtain ⟨cell, g1, g2, g3, g4, g5, g6, g7⟩ := (hwd.2.1 _ _ ha).kept hS.2.1
      exact W.alen hx hb g1 g2 g5 rfl rfl hd (K lsM H locs cells slots hl hP hS hc hs)
    · cases hf
  · cases hf
theorem s_mo_alenO (nx : Nat) : s_mo (o_alenO nx) := s_mo_same fun O ls st h q hf => by
  simp only [o_alenO] at hf
  repeat' split at hf
  all_goals first | (cases hf; rfl) | (cases hf; done)
theorem s_oinit {i : Nat} (hw : Cond.methodLink y.cls i Lib.objectInit ∈ Ts) (hw2 : Cond.instanceMethod Lib.objectInit ∈ Ts) (hw3 : Cond.code Lib.objectInit ⟨#[0xb1]⟩ 1 none ∈ Ts) (hd : decode cc pc = .ok (.invokespecial i, 3)) : s_Op Ts cl tb y cc pc (o_oinit (pc + 3)) := by
  intro base oa cA D O p l e R s m args below meth c nL c0 s0 Q ls st h q C hRf hRl hz hf hc1 hc2 K lsM H locs cells slots hl hP hS hc hs
  obtain ⟨hx, hb, hml, hown, hts, hwd, hba, hlk, hnm⟩ := C
  simp only [o_oinit] at hf
  split at hf
  · rename_i a r
    split at hf
    · rename_i hq
      cases hf
      exact W.objInit hx hb hown (hts _ hw) (hts _ hw2) (hts _ hw3) rfl (by rw [hml]; exact hl.2.1) rfl hd (by omega) (by rw [s_cat_sum]; show 2 * 0 + _ + 12 ≤ _; omega) (K lsM H locs cells slots hl hP hS hc hs)
    · cases hf
  · cases hf
theorem s_mo_oinit (nx : Nat) : s_mo (o_oinit nx) := s_mo_same fun O ls st h q hf => by
  simp only [o_oinit] at hf
  repeat' split at hf
  all_goals first | (cases hf; rfl) | (cases hf; done)
theorem s_copy {i : Nat} (hw : Cond.methodLink y.cls i arraycopyName ∈ Ts) (hw2 : Cond.native arraycopyName ∈ Ts) (hw3 : Cond.static arraycopyName ∈ Ts) (hw4 : Cond.initialized "java/lang/System" ∈ Ts) (hd : decode cc pc = .ok (.invokestatic i, 3)) : s_Op Ts cl tb y cc pc (o_copy (pc + 3)) := by
  intro base oa cA D O p l e R s m args below meth c nL c0 s0 Q ls st h q C hRf hRl hz hf hc1 hc2 K lsM H locs cells slots hl hP hS hc hs
  obtain ⟨hx, hb, hml, hown, hts, hwd, hba, hlk, hnm⟩ := C
  simp only [o_copy] at hf
  split at hf
  · rename_i n dp b sp a r
    split at hf
    · rename_i n0 f n1 g ha hb1
      split at hf
      · cases hf
      · rename_i hq
        cases hf
        simp only [not_or, Nat.not_lt] at hq
        obtain ⟨⟨q1, q2, q3⟩, ⟨q4, q5⟩, q6⟩ := hq
        have h90 : nativeFrameWords "java/lang/System" "arraycopy" 5 + 11 ≤ 90 := by decide +kernel
        refine va_copyi hx hb (by rw [hml]; exact hl.2.1.symm) hown (hts _ hw) (hts _ hw2) (hts _ hw3) (hts _ hw4) hwd.1 hP s_rl_D hS a b 0 0 (s_rl_get ha) (s_rl_get hb1) rfl rfl rfl q1 q2 q3 q4 q5 (fun _ _ => rfl) (by omega) (by rw [s_cat_sum]; omega) hd (fun H1 locs1 hP1 _ hS1 => ?_)
        refine K lsM H1 locs1 cells slots hl ?_ hS1 (by rw [s_nc_set]; exact hc) (hs.trans (s_ns_set hb1 (by rfl)).symm)
        rw [s_rl_set]
        exact hP1
    · cases hf
  · cases hf
theorem s_mo_copy (nx : Nat) : s_mo (o_copy nx) := fun O ls st h q hf => by
  simp only [o_copy] at hf
  split at hf
  · split at hf
    · rename_i ha hb1
      split at hf
      · cases hf
      · cases hf; exact s_mo_set hb1 rfl
    · cases hf
  · cases hf
theorem s_mo_pushc {h : mH} {c : mC} : h.2 = (h.1 ++ [c], h.2).2 ∧ s_nc h ≤ s_nc (h.1 ++ [c], h.2) ∧ s_ns h ≤ s_ns (h.1 ++ [c], h.2) := by
  refine ⟨rfl, ?_, ?_⟩
  · simp [s_nc]
  · simp [s_ns]
theorem s_size {base : Nat} {oa : Nat → Nat} {cA : Nat → ClassId} {D : va_G} {h : mH} {H : Heap} {s : State} {locs : List Loc} {cells c0 : Nat} (hz : h.2 = 0 → s.heap.size ≤ base + c0) (h0 : h.2 = 0) (hc : cells + c0 = s_nc h) (hba : base ≤ s.heap.size) (hP : va_P D cl (s_rl base oa cA h.1) H) (hS : va_S (s_A base) s.heap H locs) (hsz : H.size ≤ s.heap.size + cells) : H.size = base + h.1.length := by
  have h1 := s_len_le hP (Nat.le_trans hba hS.1)
  have h2 := hz h0
  simp only [s_nc, h0] at hc
  omega
theorem s_new {C0 : String} {T : u_T} {N ci i : Nat} {ty0 : Nat → FieldType} {fs : List Value} (hc0 : cl[ci]? = some (C0, T, N)) (hin : ∀ w ∈ u_ws C0 T N, w ∈ Ts) (hty : ∀ k, k < N → parseFieldDescriptor (T k).2.2.1 = some (ty0 k)) (hfs : ∀ j, j < N → defaultValue (ty0 j) = vp_V fs j) (hpl : ∀ base oa, fs.map (s_tv base oa) = fs) (hN : fs.length = N)
    (hw : Cond.classLink y.cls i C0 ∈ Ts) (hw2 : Cond.instantiable C0 N ∈ Ts) (hw3 : Cond.initialized C0 ∈ Ts) (hd : decode cc pc = .ok (.new i, 3)) : s_Op Ts cl tb y cc pc (o_new ci fs (pc + 3)) := by
  intro base oa cA D O p l e R s m args below meth c nL c0 s0 Q ls st h q C hRf hRl hz hf hc1 hc2 K lsM H locs cells slots hl hP hS hc hs
  obtain ⟨hx, hb, hml, hown, hts, hwd, hba, hlk, hnm⟩ := C
  simp only [o_new] at hf
  split at hf
  · cases hf
  · rename_i h0
    simp only [ne_eq, Decidable.not_not] at h0
    cases hf
    refine s_W_size fun hsz => ?_
    have hsz := s_size hz h0 hc hba hP hS hsz
    have hKn := hwd.1.1 ci _ hc0
    have e1 : s_nc (h.1 ++ [Sum.inr (ci, fs)], h.2) = s_nc h + 1 := by simp [s_nc]; omega
    have e2 : s_ns (h.1 ++ [Sum.inr (ci, fs)], h.2) = s_ns h + N := by simp [s_ns, s_cs, hN]; omega
    simp only [e1, e2] at hc1 hc2
    refine W.newcK hx hb hown (hts _ hw) (hts _ hw2) (hts _ hw3) rfl hd (by omega) (by omega) hKn.2.1 hsz fun H1 kC hkC g1 z1 o1 => ?_
    refine K lsM H1 locs (cells + 1) (slots + N) hl ?_ ⟨Nat.le_trans hS.1 (by omega), fun x q1 q2 => (o1 x (by have := hS.1; omega)).trans (hS.2.1 x q1 q2), hS.2.2⟩ (by rw [e1]; omega) (by rw [e2]; omega)
    rw [s_rl_push]
    refine (hP.kept fun k x hx => o1 x.1 (by have := (hP k x hx).lt; omega)).app (fun k x hx => ?_)
    have hz : k < 1 := (List.getElem?_eq_some_iff.mp hx).1
    rw [show k = 0 by omega] at hx
    cases hx
    simp only [s_re, hpl]
    exact ⟨_, hc0, (u_born ty0 hts hin hKn hkC g1 hty).to hfs⟩
theorem s_mo_new (ci : Nat) (fs : List Value) (nx : Nat) : s_mo (o_new ci fs nx) := fun O ls st h q hf => by
  simp only [o_new] at hf
  split at hf
  · cases hf
  · cases hf; exact s_mo_pushc
theorem s_newa {t : Nat} {aty : ArrayType} {ty : FieldType} (ht : t < 3) (hty : newarray.typeOf aty = ty) (htt : ∀ cA : Nat → ClassId, (s_tys cA)[t]? = some (cA t, ty)) (hra : ∀ (U : State) (k : ClassId), va_RA U k ty → U.vm.findClass ("[" ++ ty.toString) = some k) (hcb : componentBytes ty ≤ 8) (hce : ∀ (k : ClassId) (n : Nat), ∃ x : vp_A, s_re 0 id (fun _ => k) (m_zero t n) = .inl (k, x) ∧ vp_cell k x = arrV k n (fun _ => defaultValue ty))
    (hw : Cond.arrayClass ty ∈ Ts) (hd : decode cc pc = .ok (.newarray aty, 2)) : s_Op Ts cl tb y cc pc (o_newa t (pc + 2)) := by
  intro base oa cA D O p l e R s m args below meth c nL c0 s0 Q ls st h q C hRf hRl hz hf hc1 hc2 K lsM H locs cells slots hl hP hS hc hs
  obtain ⟨hx, hb, hml, hown, hts, hwd, hba, hlk, hnm⟩ := C
  simp only [o_newa] at hf
  subst hty
  split at hf
  · rename_i n r
    split at hf
    · cases hf
    · rename_i hq
      simp only [not_or, Nat.not_lt, ne_eq, Decidable.not_not] at hq
      obtain ⟨⟨hn, hN⟩, h0⟩ := hq
      cases hf
      refine s_W_size fun hsz => ?_
      have hsz := s_size hz h0 hc hba hP hS hsz
      have e1 : s_nc (h.1 ++ [m_zero t n.toNatClampNeg], h.2) = s_nc h + 1 := by simp [s_nc]; omega
      have e2 : s_ns (h.1 ++ [m_zero t n.toNatClampNeg], h.2) = s_ns h + n.toNatClampNeg := by
        have : s_cs (m_zero t n.toNatClampNeg) = n.toNatClampNeg := by unfold m_zero; split <;> rfl
        simp [s_ns, this]; omega
      simp only [e1, e2] at hc1 hc2
      refine va_newaK hx hb (hts _ hw) rfl hd rfl hn rfl (by
        have : n.toNatClampNeg * componentBytes (newarray.typeOf aty) ≤ 100000 * 8 := Nat.mul_le_mul hN hcb
        omega) (by omega) (by omega) hsz fun H1 cA1 g1 z1 o1 hAr hNm => ?_
      have hcA : cA1 = cA t := Option.some.inj (hNm.symm.trans (hra s _ (hwd.1.2 t _ (htt cA)).2))
      subst hcA
      refine K lsM H1 locs (cells + 1) (slots + n.toNatClampNeg) hl ?_ ⟨Nat.le_trans hS.1 (by omega), fun x q1 q2 => (o1 x (by have := hS.1; omega)).trans (hS.2.1 x q1 q2), hS.2.2⟩ (by rw [e1]; omega) (by rw [e2]; omega)
      rw [s_rl_push]
      refine (hP.kept fun k x hx => o1 x.1 (by have := (hP k x hx).lt; omega)).app (fun k x hx => ?_)
      have hz : k < 1 := (List.getElem?_eq_some_iff.mp hx).1
      rw [show k = 0 by omega] at hx
      cases hx
      have h9 : s_re base oa cA (m_zero t n.toNatClampNeg) = s_re 0 id (fun _ => cA t) (m_zero t n.toNatClampNeg) := by
        unfold m_zero
        split
        · rename_i h2; subst h2; rfl
        · rfl
      obtain ⟨x9, g8, g9⟩ := hce (cA t) n.toNatClampNeg
      rw [h9, g8]
      show H1[base + h.1.length]? = some (vp_cell (cA t) x9)
      rw [g1, g9]
  · cases hf
theorem s_mo_newa (t nx : Nat) : s_mo (o_newa t nx) := fun O ls st h q hf => by
  simp only [o_newa] at hf
  split at hf
  · split at hf
    · cases hf
    · cases hf; exact s_mo_pushc
  · cases hf
theorem s_mx {i : Nat} (hw : Cond.methodLink y.cls i Lib.Math.max.name ∈ Ts) (hw2 : Cond.static Lib.Math.max.name ∈ Ts) (hw3 : Cond.initialized "java/lang/Math" ∈ Ts) (hw4 : Cond.code Lib.Math.max.name Lib.Math.max.code 2 (some .int) ∈ Ts) (hd : decode cc pc = .ok (.invokestatic i, 3)) : s_Op Ts cl tb y cc pc (o_mx (pc + 3)) := by
  intro base oa cA D O p l e R s m args below meth c nL c0 s0 Q ls st h q C hRf hRl hz hf hc1 hc2 K lsM H locs cells slots hl hP hS hc hs
  obtain ⟨hx, hb, hml, hown, hts, hwd, hba, hlk, hnm⟩ := C
  simp only [o_mx] at hf
  split at hf
  · split at hf
    · rename_i hq
      cases hf
      simp only at hc1 hc2
      exact va_mmax hx hb (by rw [hml]; exact hl.2.1.symm) hown (hts _ hw) (hts _ hw2) (hts _ hw3) (hts _ hw4) (by omega) (by rw [s_cat_sum]; omega) (by omega) (by omega) hd (K lsM H locs cells slots hl hP hS hc hs)
    · cases hf
  · cases hf
theorem s_mo_mx (nx : Nat) : s_mo (o_mx nx) := s_mo_same fun O ls st h q hf => by
  simp only [o_mx] at hf
  repeat' split at hf
  all_goals first | (cases hf; rfl) | (cases hf; done)
theorem s_mn {i : Nat} (hw : Cond.methodLink y.cls i Lib.Math.min.name ∈ Ts) (hw2 : Cond.static Lib.Math.min.name ∈ Ts) (hw3 : Cond.initialized "java/lang/Math" ∈ Ts) (hw4 : Cond.code Lib.Math.min.name Lib.Math.min.code 2 (some .int) ∈ Ts) (hd : decode cc pc = .ok (.invokestatic i, 3)) : s_Op Ts cl tb y cc pc (o_mn (pc + 3)) := by
  intro base oa cA D O p l e R s m args below meth c nL c0 s0 Q ls st h q C hRf hRl hz hf hc1 hc2 K lsM H locs cells slots hl hP hS hc hs
  obtain ⟨hx, hb, hml, hown, hts, hwd, hba, hlk, hnm⟩ := C
  simp only [o_mn] at hf
  split at hf
  · split at hf
    · rename_i hq
      cases hf
      simp only at hc1 hc2
      exact va_mmin hx hb (by rw [hml]; exact hl.2.1.symm) hown (hts _ hw) (hts _ hw2) (hts _ hw3) (hts _ hw4) (by omega) (by rw [s_cat_sum]; omega) (by omega) (by omega) hd (K lsM H locs cells slots hl hP hS hc hs)
    · cases hf
  · cases hf
theorem s_mo_mn (nx : Nat) : s_mo (o_mn nx) := s_mo_same fun O ls st h q hf => by
  simp only [o_mn] at hf
  repeat' split at hf
  all_goals first | (cases hf; rfl) | (cases hf; done)
theorem s_mb {i : Nat} (hw : Cond.methodLink y.cls i Lib.Math.abs.name ∈ Ts) (hw2 : Cond.static Lib.Math.abs.name ∈ Ts) (hw3 : Cond.initialized "java/lang/Math" ∈ Ts) (hw4 : Cond.code Lib.Math.abs.name Lib.Math.abs.code 1 (some .int) ∈ Ts) (hd : decode cc pc = .ok (.invokestatic i, 3)) : s_Op Ts cl tb y cc pc (o_mb (pc + 3)) := by
  intro base oa cA D O p l e R s m args below meth c nL c0 s0 Q ls st h q C hRf hRl hz hf hc1 hc2 K lsM H locs cells slots hl hP hS hc hs
  obtain ⟨hx, hb, hml, hown, hts, hwd, hba, hlk, hnm⟩ := C
  simp only [o_mb] at hf
  split at hf
  · split at hf
    · rename_i hq
      cases hf
      simp only at hc1 hc2
      exact va_mabs hx hb (by rw [hml]; exact hl.2.1.symm) hown (hts _ hw) (hts _ hw2) (hts _ hw3) (hts _ hw4) (by omega) (by rw [s_cat_sum]; omega) (by omega) (by omega) hd (K lsM H locs cells slots hl hP hS hc hs)
    · cases hf
  · cases hf
theorem s_mo_mb (nx : Nat) : s_mo (o_mb nx) := s_mo_same fun O ls st h q hf => by
  simp only [o_mb] at hf
  repeat' split at hf
  all_goals first | (cases hf; rfl) | (cases hf; done)
theorem s_mxL {i : Nat} (hw : Cond.methodLink y.cls i Lib.MathLoose.max_long.x ∈ Ts) (hw2 : Cond.static Lib.MathLoose.max_long.x ∈ Ts) (hw3 : Cond.initialized "java/lang/Math" ∈ Ts) (hw4 : Cond.code Lib.MathLoose.max_long.x Lib.MathLoose.max_long.code 4 (some .long) ∈ Ts) (hd : decode cc pc = .ok (.invokestatic i, 3)) : s_Op Ts cl tb y cc pc (o_mxL (pc + 3)) := by
  intro base oa cA D O p l e R s m args below meth c nL c0 s0 Q ls st h q C hRf hRl hz hf hc1 hc2 K lsM H locs cells slots hl hP hS hc hs
  obtain ⟨hx, hb, hml, hown, hts, hwd, hba, hlk, hnm⟩ := C
  simp only [o_mxL] at hf
  split at hf
  · split at hf
    · rename_i hq
      cases hf
      simp only at hc1 hc2
      exact va_mmax_long hx hb (by rw [hml]; exact hl.2.1.symm) hown (hts _ hw) (hts _ hw2) (hts _ hw3) (hts _ hw4) (by omega) (by rw [s_cat_sum]; omega) (by omega) (by omega) hd (K lsM H locs cells slots hl hP hS hc hs)
    · cases hf
  · cases hf
theorem s_mo_mxL (nx : Nat) : s_mo (o_mxL nx) := s_mo_same fun O ls st h q hf => by
  simp only [o_mxL] at hf
  repeat' split at hf
  all_goals first | (cases hf; rfl) | (cases hf; done)
end S4
