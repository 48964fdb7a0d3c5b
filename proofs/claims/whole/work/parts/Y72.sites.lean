/-! A place of the tables, backed: for callers and callees by their data -/
section Sites
variable {y : Nat} {yn : MethodName} {yc : ByteArray} {ym : Nat} {yr : Option FieldType} {yh : List (Nat × Nat × Nat × Nat)} {k : Nat} {kn : MethodName} {kc : ByteArray} {km : Nat} {kr : Option FieldType} {kh : List (Nat × Nat × Nat × Nat)} {pc na rc i n : Nat}
theorem s_sS (m : s_mk y yn yc ym yr yh) (q : s_mk k kn kc km kr kh) (o : s_ok1 s_Ts s_M k) (hn : (parseMethodDescriptor kn.desc).map (fun d => d.parameters.length) = some n) (hd : decode yc pc = .ok (.invokestatic i, 3)) (w1 : Cond.methodLink yn.cls i kn ∈ s_Ts) (w2 : Cond.static kn ∈ s_Ts) : s_site s_Ts vwCl s_tb s_M y pc k n rc := by
  obtain ⟨a, b, c, d, e⟩ := m
  obtain ⟨a', b', c', d', e'⟩ := q
  exact ⟨o, i, n, by rw [a']; exact hn, Or.inr (Or.inl ⟨by rw [b]; exact hd, rfl, by rw [a, a']; exact w1, by rw [a']; exact w2⟩)⟩
theorem s_sV (m : s_mk y yn yc ym yr yh) (q : s_mk k kn kc km kr []) (o : s_ok1 s_Ts s_M k) (hn : (parseMethodDescriptor kn.desc).map (fun d => d.parameters.length) = some n) (hd : decode yc pc = .ok (.invokevirtual i, 3)) (w1 : Cond.methodLink yn.cls i kn ∈ s_Ts) (w2 : Cond.instanceMethod kn ∈ s_Ts) (w3 : Cond.selects kn.cls kn kn ∈ s_Ts) (hrc : (rc = 1000 ∧ kn.cls = "java/lang/String") ∨ ∃ (j : Nat) (T : u_T) (N : Nat), rc = j + 1 ∧ vwCl[j]? = some (kn.cls, T, N)) : s_site s_Ts vwCl s_tb s_M y pc k (n + 1) rc := by
  obtain ⟨a, b, c, d, e⟩ := m
  obtain ⟨a', b', c', d', e'⟩ := q
  exact ⟨o, i, n, by rw [a']; exact hn, Or.inl ⟨by rw [b]; exact hd, rfl, e', by rw [a, a']; exact w1, by rw [a']; exact w2, by rw [a']; exact w3, by rw [a']; exact hrc⟩⟩
theorem s_sI (m : s_mk y yn yc ym yr yh) (q : s_mk k kn kc km none []) (o : s_ok1 s_Ts s_M k) (hn : (parseMethodDescriptor kn.desc).map (fun d => d.parameters.length) = some n) (hd : decode yc pc = .ok (.invokespecial i, 3)) (hi : kn.name = "<init>") (w2 : Cond.instanceMethod kn ∈ s_Ts) (hrc : ∃ (j : Nat) (T : u_T) (N : Nat), rc = j + 2001 ∧ vwCl[j]? = some (kn.cls, T, N)) (hl : Cond.methodLink yn.cls i kn ∈ s_Ts ∨ ∃ host, (yn.cls, i, kn, host) ∈ s_tb.2.2.1) : s_site s_Ts vwCl s_tb s_M y pc k (n + 1) rc := by
  obtain ⟨a, b, c, d, e⟩ := m
  obtain ⟨a', b', c', d', e'⟩ := q
  exact ⟨o, i, n, by rw [a']; exact hn, Or.inr (Or.inr ⟨by rw [b]; exact hd, rfl, e', d', by rw [a']; exact hi, by rw [a']; exact w2, by rw [a']; exact hrc, by rw [a, a']; exact hl⟩)⟩
theorem s_h0 (m : s_mk y yn yc ym yr []) : s_hand s_Ts s_tb s_M y pc [] := ⟨fun _ => m.2.2.2.2, fun _ _ _ h => (nomatch h)⟩
theorem s_h1 {e p j a b hp ct : Nat} (m : s_mk y yn yc ym yr [(a, b, hp, ct)]) (h1 : covers ⟨a, b, hp, ct⟩ pc = true) (h2 : ct ≠ 0) (w0 : Cond.classLink yn.cls ct (s_ex e) ∈ s_Ts) (hc : (s_ex e, s_ex e) ∈ s_tb.2.2.2.2.1)
    (ha : (∃ k : Fin 4, decode yc hp = .ok (.astore_n k, 1) ∧ (k : Nat) = j ∧ p = hp + 1) ∨ (decode yc hp = .ok (.astore j, 2) ∧ p = hp + 2)) : s_hand s_Ts s_tb s_M y pc [(e, p, j)] := by
  obtain ⟨a', b', c', d', e'⟩ := m
  refine ⟨fun h => (nomatch h), fun x p' j' hf => ?_⟩
  simp only [m_find] at hf
  split at hf
  · rename_i hx
    cases hf
    subst hx
    refine ⟨[], ⟨a, b, hp, ct⟩, [], s_ex e, by rw [e']; rfl, fun z hz => (nomatch hz), h1, h2, by rw [a']; exact w0, hc, by rw [b']; exact ha⟩
  · cases hf
theorem s_h2 {e p j a b hp ct e2 p2 j2 a2 b2 hp2 ct2 : Nat} (m : s_mk y yn yc ym yr [(a, b, hp, ct), (a2, b2, hp2, ct2)]) (hne : e ≠ e2) (h1 : covers ⟨a, b, hp, ct⟩ pc = true) (h3 : covers ⟨a2, b2, hp2, ct2⟩ pc = true) (h2 : ct ≠ 0) (h4 : ct2 ≠ 0) (w0 : Cond.classLink yn.cls ct (s_ex e) ∈ s_Ts) (w1 : Cond.classLink yn.cls ct2 (s_ex e2) ∈ s_Ts) (hc : (s_ex e, s_ex e) ∈ s_tb.2.2.2.2.1) (hc2 : (s_ex e2, s_ex e2) ∈ s_tb.2.2.2.2.1) (hn : (s_ex e2, s_ex e) ∈ s_tb.2.2.2.1)
    (ha : (∃ k : Fin 4, decode yc hp = .ok (.astore_n k, 1) ∧ (k : Nat) = j ∧ p = hp + 1) ∨ (decode yc hp = .ok (.astore j, 2) ∧ p = hp + 2)) (ha2 : (∃ k : Fin 4, decode yc hp2 = .ok (.astore_n k, 1) ∧ (k : Nat) = j2 ∧ p2 = hp2 + 1) ∨ (decode yc hp2 = .ok (.astore j2, 2) ∧ p2 = hp2 + 2)) : s_hand s_Ts s_tb s_M y pc [(e, p, j), (e2, p2, j2)] := by
  obtain ⟨a', b', c', d', e'⟩ := m
  refine ⟨fun h => (nomatch h), fun x p' j' hf => ?_⟩
  simp only [m_find] at hf
  split at hf
  · rename_i hx
    cases hf
    subst hx
    exact ⟨[], ⟨a, b, hp, ct⟩, [⟨a2, b2, hp2, ct2⟩], s_ex e, by rw [e']; rfl, fun z hz => (nomatch hz), h1, h2, by rw [a']; exact w0, hc, by rw [b']; exact ha⟩
  · split at hf
    · rename_i hx
      cases hf
      subst hx
      refine ⟨[⟨a, b, hp, ct⟩], ⟨a2, b2, hp2, ct2⟩, [], s_ex e2, by rw [e']; rfl, fun z hz => ?_, h3, h4, by rw [a']; exact w1, hc2, by rw [b']; exact ha2⟩
      rw [List.mem_singleton] at hz
      subst hz
      exact Or.inr ⟨h2, s_ex e, by rw [a']; exact w0, hn⟩
    · cases hf
theorem s_r0 (m : s_mk y yn yc ym none yh) (hd : decode yc pc = .ok (.return_, 1)) : s_rsite s_M y pc 0 := Or.inl ⟨rfl, m.2.2.2.1, by rw [m.2.1]; exact hd⟩
theorem s_r1 (m : s_mk y yn yc ym (some .int) yh) (hd : decode yc pc = .ok (.ireturn, 1)) : s_rsite s_M y pc 1 := Or.inr (Or.inl ⟨rfl, m.2.2.2.1, by rw [m.2.1]; exact hd⟩)
theorem s_r2 (m : s_mk y yn yc ym (some .boolean) yh) (hd : decode yc pc = .ok (.ireturn, 1)) : s_rsite s_M y pc 2 := Or.inr (Or.inr (Or.inl ⟨rfl, m.2.2.2.1, by rw [m.2.1]; exact hd⟩))
theorem s_r3 (m : s_mk y yn yc ym (some .long) yh) (hd : decode yc pc = .ok (.lreturn, 1)) : s_rsite s_M y pc 3 := Or.inr (Or.inr (Or.inr (Or.inl ⟨rfl, m.2.2.2.1, by rw [m.2.1]; exact hd⟩)))
theorem s_r4 {nn : String} (m : s_mk y yn yc ym (some (.object nn)) yh) (hd : decode yc pc = .ok (.areturn, 1)) : s_rsite s_M y pc 4 := Or.inr (Or.inr (Or.inr (Or.inr (Or.inl ⟨rfl, ⟨_, m.2.2.2.1, Or.inl ⟨_, rfl⟩⟩, by rw [m.2.1]; exact hd⟩))))
theorem s_r5 (m : s_mk y yn yc ym (some .byte) yh) (hd : decode yc pc = .ok (.ireturn, 1)) : s_rsite s_M y pc 5 := Or.inr (Or.inr (Or.inr (Or.inr (Or.inr (Or.inl ⟨rfl, m.2.2.2.1, by rw [m.2.1]; exact hd⟩)))))
theorem s_r6 (m : s_mk y yn yc ym (some .char) yh) (hd : decode yc pc = .ok (.ireturn, 1)) : s_rsite s_M y pc 6 := Or.inr (Or.inr (Or.inr (Or.inr (Or.inr (Or.inr ⟨rfl, m.2.2.2.1, by rw [m.2.1]; exact hd⟩)))))
theorem s_t {e ik ic : Nat} (m : s_mk y yn yc ym yr []) (d0 : decode yc pc = .ok (.new ik, 3)) (d3 : decode yc (pc + 3) = .ok (.dup, 1)) (d4 : decode yc (pc + 4) = .ok (.invokespecial ic, 3)) (d7 : decode yc (pc + 7) = .ok (.athrow, 1)) (hf : Bundle.fit (s_ex e) = true) (w1 : Cond.classLink yn.cls ik (s_ex e) ∈ s_Ts) (w2 : Cond.initialized (s_ex e) ∈ s_Ts) (w3 : ∀ w ∈ (vx_at0 yn.cls ic (s_ex e) s_up).filter goodWord, w ∈ s_Ts)
    (w4 : ∀ w ∈ (vx_at0 yn.cls ic (s_ex e) s_up).filter (fun w => !goodWord w), (∃ q ∈ s_tb.2.2.2.2.1, w = .castable q.1 q.2) ∨ ∃ q ∈ s_tb.2.2.2.2.2, w = .declares q) (w5 : ∀ w ∈ vx_at0 yn.cls ic (s_ex e) s_up, vx_ot w = true) : s_tsite s_Ts s_tb s_M y pc e := by
  obtain ⟨a, b, c, d, e'⟩ := m
  exact ⟨e', ik, ic, by rw [b]; exact d0, by rw [b]; exact d3, by rw [b]; exact d4, by rw [b]; exact d7, hf, by rw [a]; exact w1, w2, by rw [a]; exact w3, by rw [a]; exact w4, by rw [a]; exact w5⟩
def s_atx (y : Nat) (yn : MethodName) (yc : ByteArray) (pc : Nat) (op : mI) : Prop := match op with
  | .inl f => s_Op s_Ts vwCl s_tb yn yc pc f ∧ s_mo f
  | .inr (.inl (k, na, rc, hs)) => s_site s_Ts vwCl s_tb s_M y pc k na rc ∧ s_hand s_Ts s_tb s_M y pc hs
  | .inr (.inr (.inl k)) => s_rsite s_M y pc k
  | .inr (.inr (.inr e)) => s_tsite s_Ts s_tb s_M y pc e
def s_tok (y : Nat) (t : List (Nat × mI)) : Prop := ∀ q ∈ t, s_atx y (s_M.1 y) (s_M.2.1 y) q.1 q.2
theorem s_lift {t : List (Nat × mI)} (m : s_mk y yn yc ym yr yh) (h : ∀ q ∈ t, s_atx y yn yc q.1 q.2) : s_tok y t := by
  obtain ⟨a, b, -⟩ := m
  unfold s_tok
  rw [a, b]
  exact h
end Sites
theorem x_GlassCity_112g : ∀ w ∈ (vx_at0 "GlassCity" 112 (s_ex 0) s_up).filter goodWord, w ∈ s_Ts := fun w hw => List.mem_filter.mpr ⟨(by decide +kernel : ∀ w ∈ (vx_at0 "GlassCity" 112 (s_ex 0) s_up).filter goodWord, w ∈ lw_tbl) w hw, (List.mem_filter.mp hw).2⟩
theorem x_GlassCity_112b : ∀ w ∈ (vx_at0 "GlassCity" 112 (s_ex 0) s_up).filter (fun w => !goodWord w), (∃ q ∈ s_tb.2.2.2.2.1, w = .castable q.1 q.2) ∨ ∃ q ∈ s_tb.2.2.2.2.2, w = .declares q := by decide +kernel
theorem x_GlassCity_112o : ∀ w ∈ vx_at0 "GlassCity" 112 (s_ex 0) s_up, vx_ot w = true := by decide +kernel
theorem x_GlassCity_118g : ∀ w ∈ (vx_at0 "GlassCity" 118 (s_ex 3) s_up).filter goodWord, w ∈ s_Ts := fun w hw => List.mem_filter.mpr ⟨(by decide +kernel : ∀ w ∈ (vx_at0 "GlassCity" 118 (s_ex 3) s_up).filter goodWord, w ∈ lw_tbl) w hw, (List.mem_filter.mp hw).2⟩
theorem x_GlassCity_118b : ∀ w ∈ (vx_at0 "GlassCity" 118 (s_ex 3) s_up).filter (fun w => !goodWord w), (∃ q ∈ s_tb.2.2.2.2.1, w = .castable q.1 q.2) ∨ ∃ q ∈ s_tb.2.2.2.2.2, w = .declares q := by decide +kernel
theorem x_GlassCity_118o : ∀ w ∈ vx_at0 "GlassCity" 118 (s_ex 3) s_up, vx_ot w = true := by decide +kernel
theorem x_GlassCity_156g : ∀ w ∈ (vx_at0 "GlassCity" 156 (s_ex 2) s_up).filter goodWord, w ∈ s_Ts := fun w hw => List.mem_filter.mpr ⟨(by decide +kernel : ∀ w ∈ (vx_at0 "GlassCity" 156 (s_ex 2) s_up).filter goodWord, w ∈ lw_tbl) w hw, (List.mem_filter.mp hw).2⟩
theorem x_GlassCity_156b : ∀ w ∈ (vx_at0 "GlassCity" 156 (s_ex 2) s_up).filter (fun w => !goodWord w), (∃ q ∈ s_tb.2.2.2.2.1, w = .castable q.1 q.2) ∨ ∃ q ∈ s_tb.2.2.2.2.2, w = .declares q := by decide +kernel
theorem x_GlassCity_156o : ∀ w ∈ vx_at0 "GlassCity" 156 (s_ex 2) s_up, vx_ot w = true := by decide +kernel
theorem x_GlassCity_162g : ∀ w ∈ (vx_at0 "GlassCity" 162 (s_ex 1) s_up).filter goodWord, w ∈ s_Ts := fun w hw => List.mem_filter.mpr ⟨(by decide +kernel : ∀ w ∈ (vx_at0 "GlassCity" 162 (s_ex 1) s_up).filter goodWord, w ∈ lw_tbl) w hw, (List.mem_filter.mp hw).2⟩
theorem x_GlassCity_162b : ∀ w ∈ (vx_at0 "GlassCity" 162 (s_ex 1) s_up).filter (fun w => !goodWord w), (∃ q ∈ s_tb.2.2.2.2.1, w = .castable q.1 q.2) ∨ ∃ q ∈ s_tb.2.2.2.2.2, w = .declares q := by decide +kernel
theorem x_GlassCity_162o : ∀ w ∈ vx_at0 "GlassCity" 162 (s_ex 1) s_up, vx_ot w = true := by decide +kernel
