/-! Plain steps that read or change the cells -/
theorem s_W_size {p : Program} {l : Launch} {e : Env} {R : Room} {s : State} {m : MethodId} {args : Array Value} {below : List Frame} {meth : Method} {c : Code} {H : Heap} {locs : List Loc} {cells slots : Nat} {Q : State → Prop} {g : JFrame} (k : H.size ≤ s.heap.size + cells → W p l e R s m args below meth c H locs cells slots Q g) : W p l e R s m args below meth c H locs cells slots Q g := by
  intro T hT X
  have h := X.heapSize
  rw [hT] at h
  exact k h T hT X
theorem s_len_le {base : Nat} {oa : Nat → Nat} {cA : Nat → ClassId} {D : va_G} {cl : List vw_C} {h : List mC} {H : Heap} (hP : va_P D cl (s_rl base oa cA h) H) (hb : base ≤ H.size) : base + h.length ≤ H.size := by
  cases hl : h.length with
  | zero => exact hb
  | succ n =>
    have hn : n < h.length := by omega
    have h1 := (hP n _ (s_rl_get (base := base) (oa := oa) (cA := cA) (List.getElem?_eq_getElem hn))).lt
    simp only at h1
    omega
theorem s_cnt_set {h : List mC} {a : Nat} {c c' : mC} (ha : h[a]? = some c) (hc : s_cs c' = s_cs c) : (h.set a c').map s_cs = h.map s_cs := by
  refine List.ext_getElem? fun j => ?_
  simp only [List.getElem?_map, List.getElem?_set]
  by_cases hj : a = j
  · subst hj
    have hl : a < h.length := (List.getElem?_eq_some_iff.mp ha).1
    rw [if_pos rfl, if_pos hl, ha]
    simp [hc]
  · simp [hj]
theorem s_nc_set {h : mH} {a : Nat} {c' : mC} : s_nc (h.1.set a c', h.2) = s_nc h := by simp [s_nc]
theorem s_ns_set {h : mH} {a : Nat} {c c' : mC} (ha : h.1[a]? = some c) (hc : s_cs c' = s_cs c) : s_ns (h.1.set a c', h.2) = s_ns h := by
  simp only [s_ns]
  rw [s_cnt_set ha hc]
theorem s_mo_set {h : mH} {a : Nat} {c c' : mC} (ha : h.1[a]? = some c) (hc : s_cs c' = s_cs c) : h.2 = (h.1.set a c', h.2).2 ∧ s_nc h ≤ s_nc (h.1.set a c', h.2) ∧ s_ns h ≤ s_ns (h.1.set a c', h.2) :=
  ⟨rfl, Nat.le_of_eq s_nc_set.symm, Nat.le_of_eq (s_ns_set ha hc).symm⟩
section S3
variable {Ts : List Cond} {cl : List vw_C} {tb : sT} {y : MethodName} {cc : ByteArray} {pc : Nat}
theorem s_getf {C : String} {T : u_T} {N ci k i : Nat} (hc0 : cl[ci]? = some (C, T, N)) (hk : k < N) (hin : ∀ w ∈ u_ws C T N, w ∈ Ts) (hw : Cond.fieldLink y.cls i (T k).1 (T k).2.1 (T k).2.2.1 ∈ Ts) (hd : decode cc pc = .ok (.getfield i, 3)) : s_Op Ts cl tb y cc pc (o_getf ci k (pc + 3)) := by
  intro base oa cA D O p l e R s m args below meth c nL c0 s0 Q ls st h q C hRf hRl hz hf hc1 hc2 K lsM H locs cells slots hl hP hS hc hs
  obtain ⟨hx, hb, hml, hown, hts, hwd, hba, hlk, hnm⟩ := C
  simp only [o_getf] at hf
  split at hf
  · rename_i a r
    split at hf
    · rename_i ci' fs ha
      split at hf
      · rename_i hci
        split at hf
        · rename_i v hv
          cases hf
          subst hci
          exact va_get hx hb hts hin hown hwd.1 hP a (s_rl_get ha) hc0 k hk (hts _ hw) (fun _ h => h) (v := s_tv base oa v) (by rw [List.getElem?_map, hv]; rfl) hd (K lsM H locs cells slots hl hP hS hc hs)
        · cases hf
      · cases hf
    · cases hf
  · cases hf
theorem s_mo_getf (ci k nx : Nat) : s_mo (o_getf ci k nx) := s_mo_same fun O ls st h q hf => by
  simp only [o_getf] at hf
  repeat' split at hf
  all_goals first | (cases hf; rfl) | (cases hf; done)
theorem s_putI {C : String} {T : u_T} {N ci k i : Nat} {ty0 : Nat → FieldType} (hc0 : cl[ci]? = some (C, T, N)) (hk : k < N) (hin : ∀ w ∈ u_ws C T N, w ∈ Ts) (hty : ∀ k, k < N → parseFieldDescriptor (T k).2.2.1 = some (ty0 k)) (hnm0 : ∀ a, a < N → ∀ b, b < N → a ≠ b → (T a).2.1 ≠ (T b).2.1) (hfin : (T k).2.2.2 = false) (hty0 : ty0 k = .int)
    (hw : Cond.fieldLink y.cls i (T k).1 (T k).2.1 (T k).2.2.1 ∈ Ts) (hd : decode cc pc = .ok (.putfield i, 3)) : s_Op Ts cl tb y cc pc (o_putI ci k (pc + 3)) := by
  intro base oa cA D O p l e R s m args below meth c nL c0 s0 Q ls st h q C hRf hRl hz hf hc1 hc2 K lsM H locs cells slots hl hP hS hc hs
  obtain ⟨hx, hb, hml, hown, hts, hwd, hba, hlk, hnm⟩ := C
  simp only [o_putI] at hf
  split at hf
  · rename_i x a r
    split at hf
    · rename_i ci' fs ha
      split at hf
      · rename_i hci
        cases hf
        obtain ⟨hci, hkl⟩ := hci
        subst hci
        refine va_put hx hb hts hin ty0 hty hnm0 hown hwd.1 hP s_rl_D hS a (s_rl_get ha) hc0 k hk (hts _ hw) (fun _ h => h) hfin (ty := .int) (v := .int x) (by rw [hty k hk, hty0]) rfl rfl (by rw [List.length_map]; exact hkl) hd (fun H1 locs1 hP1 _ hS1 => ?_)
        refine K lsM H1 locs1 cells slots hl ?_ hS1 (by rw [s_nc_set]; exact hc) (by rw [s_ns_set ha (by simp [s_cs])]; exact hs)
        rw [s_rl_set]
        simp only [s_re, List.map_set, s_tv_int]
        exact hP1
      · cases hf
    · cases hf
  · cases hf
theorem s_mo_putI (ci k nx : Nat) : s_mo (o_putI ci k nx) := fun O ls st h q hf => by
  simp only [o_putI] at hf
  split at hf
  · split at hf
    · rename_i ha
      split at hf
      · cases hf; exact s_mo_set ha (by simp [s_cs])
      · cases hf
    · cases hf
  · cases hf
theorem s_putZ {C : String} {T : u_T} {N ci k i : Nat} {ty0 : Nat → FieldType} (hc0 : cl[ci]? = some (C, T, N)) (hk : k < N) (hin : ∀ w ∈ u_ws C T N, w ∈ Ts) (hty : ∀ k, k < N → parseFieldDescriptor (T k).2.2.1 = some (ty0 k)) (hnm0 : ∀ a, a < N → ∀ b, b < N → a ≠ b → (T a).2.1 ≠ (T b).2.1) (hfin : (T k).2.2.2 = false) (hty0 : ty0 k = .boolean)
    (hw : Cond.fieldLink y.cls i (T k).1 (T k).2.1 (T k).2.2.1 ∈ Ts) (hd : decode cc pc = .ok (.putfield i, 3)) : s_Op Ts cl tb y cc pc (o_putZ ci k (pc + 3)) := by
  intro base oa cA D O p l e R s m args below meth c nL c0 s0 Q ls st h q C hRf hRl hz hf hc1 hc2 K lsM H locs cells slots hl hP hS hc hs
  obtain ⟨hx, hb, hml, hown, hts, hwd, hba, hlk, hnm⟩ := C
  simp only [o_putZ] at hf
  split at hf
  · rename_i x a r
    split at hf
    · rename_i ci' fs ha
      split at hf
      · rename_i hci
        cases hf
        obtain ⟨⟨hci, hkl⟩, hx01⟩ := hci
        subst hci
        refine va_put hx hb hts hin ty0 hty hnm0 hown hwd.1 hP s_rl_D hS a (s_rl_get ha) hc0 k hk (hts _ hw) (fun _ h => h) hfin (ty := .boolean) (v := .int x) (by rw [hty k hk, hty0]) (by rcases hx01 with rfl | rfl <;> rfl) (by rcases hx01 with rfl | rfl <;> rfl) (by rw [List.length_map]; exact hkl) hd (fun H1 locs1 hP1 _ hS1 => ?_)
        refine K lsM H1 locs1 cells slots hl ?_ hS1 (by rw [s_nc_set]; exact hc) (by rw [s_ns_set ha (by simp [s_cs])]; exact hs)
        rw [s_rl_set]
        simp only [s_re, List.map_set, s_tv_int]
        exact hP1
      · cases hf
    · cases hf
  · cases hf
theorem s_mo_putZ (ci k nx : Nat) : s_mo (o_putZ ci k nx) := fun O ls st h q hf => by
  simp only [o_putZ] at hf
  split at hf
  · split at hf
    · rename_i ha
      split at hf
      · cases hf; exact s_mo_set ha (by simp [s_cs])
      · cases hf
    · cases hf
  · cases hf
theorem s_putA {C : String} {T : u_T} {N ci k i : Nat} {ty0 : Nat → FieldType} (hc0 : cl[ci]? = some (C, T, N)) (hk : k < N) (hin : ∀ w ∈ u_ws C T N, w ∈ Ts) (hty : ∀ k, k < N → parseFieldDescriptor (T k).2.2.1 = some (ty0 k)) (hnm0 : ∀ a, a < N → ∀ b, b < N → a ≠ b → (T a).2.1 ≠ (T b).2.1) (hfin : (T k).2.2.2 = false) (hr1 : ∀ a : Nat, narrow (ty0 k) (.ref a) = .ref a) (hr2 : ∀ a : Nat, fits (ty0 k) (.ref a) = true)
    (hw : Cond.fieldLink y.cls i (T k).1 (T k).2.1 (T k).2.2.1 ∈ Ts) (hd : decode cc pc = .ok (.putfield i, 3)) : s_Op Ts cl tb y cc pc (o_putA ci k (pc + 3)) := by
  intro base oa cA D O p l e R s m args below meth c nL c0 s0 Q ls st h q C hRf hRl hz hf hc1 hc2 K lsM H locs cells slots hl hP hS hc hs
  obtain ⟨hx, hb, hml, hown, hts, hwd, hba, hlk, hnm⟩ := C
  simp only [o_putA] at hf
  split at hf
  · rename_i x a r
    split at hf
    · rename_i ci' fs ha
      split at hf
      · rename_i hci
        cases hf
        obtain ⟨hci, hkl⟩ := hci
        subst hci
        refine va_put hx hb hts hin ty0 hty hnm0 hown hwd.1 hP s_rl_D hS a (s_rl_get ha) hc0 k hk (hts _ hw) (fun _ h => h) hfin (ty := ty0 k) (v := .ref (base + x)) (hty k hk) (hr1 _) (hr2 _) (by rw [List.length_map]; exact hkl) hd (fun H1 locs1 hP1 _ hS1 => ?_)
        refine K lsM H1 locs1 cells slots hl ?_ hS1 (by rw [s_nc_set]; exact hc) (by rw [s_ns_set ha (by simp [s_cs])]; exact hs)
        rw [s_rl_set]
        simp only [s_re, List.map_set, s_tv_ref]
        exact hP1
      · cases hf
    · cases hf
  · cases hf
theorem s_putAF {C : String} {T : u_T} {N ci k i : Nat} {ty0 : Nat → FieldType} (hc0 : cl[ci]? = some (C, T, N)) (hk : k < N) (hin : ∀ w ∈ u_ws C T N, w ∈ Ts) (hty : ∀ k, k < N → parseFieldDescriptor (T k).2.2.1 = some (ty0 k)) (hnm0 : ∀ a, a < N → ∀ b, b < N → a ≠ b → (T a).2.1 ≠ (T b).2.1) (hfin : (T k).2.2.2 = true) (hi0 : y.name = "<init>") (hde : (T k).1 = y.cls) (hr1 : ∀ a : Nat, narrow (ty0 k) (.ref a) = .ref a) (hr2 : ∀ a : Nat, fits (ty0 k) (.ref a) = true)
    (hw : Cond.fieldLink y.cls i (T k).1 (T k).2.1 (T k).2.2.1 ∈ Ts) (hd : decode cc pc = .ok (.putfield i, 3)) : s_Op Ts cl tb y cc pc (o_putA ci k (pc + 3)) := by
  intro base oa cA D O p l e R s m args below meth c nL c0 s0 Q ls st h q C hRf hRl hz hf hc1 hc2 K lsM H locs cells slots hl hP hS hc hs
  obtain ⟨hx, hb, hml, hown, hts, hwd, hba, hlk, hnm⟩ := C
  simp only [o_putA] at hf
  split at hf
  · rename_i x a r
    split at hf
    · rename_i ci' fs ha
      split at hf
      · rename_i hci
        cases hf
        obtain ⟨hci, hkl⟩ := hci
        subst hci
        refine va_putF hx hb hts hin ty0 hty hnm0 hown hwd.1 hP s_rl_D hS a (s_rl_get ha) hc0 k hk (hts _ hw) (fun _ h => h) hfin (by rw [hnm]; exact hi0) hde (ty := ty0 k) (v := .ref (base + x)) (hty k hk) (hr1 _) (hr2 _) (by rw [List.length_map]; exact hkl) hd (fun H1 locs1 hP1 _ hS1 => ?_)
        refine K lsM H1 locs1 cells slots hl ?_ hS1 (by rw [s_nc_set]; exact hc) (by rw [s_ns_set ha (by simp [s_cs])]; exact hs)
        rw [s_rl_set]
        simp only [s_re, List.map_set, s_tv_ref]
        exact hP1
      · cases hf
    · cases hf
  · cases hf
theorem s_mo_putA (ci k nx : Nat) : s_mo (o_putA ci k nx) := fun O ls st h q hf => by
  simp only [o_putA] at hf
  split at hf
  · split at hf
    · rename_i ha
      split at hf
      · cases hf; exact s_mo_set ha (by simp [s_cs])
      · cases hf
    · cases hf
  · cases hf
end S3
