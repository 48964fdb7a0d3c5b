/-! Questions: class and reference answer alike -/
def XP (rL : Option mR) (rM : mH → Option mR) (h : mH) : Prop := ∃ t h1 v h2, (t = 0 ∨ t = 1 ∨ t = 2) ∧ rL = some (.inl (some (.int (nI t))), h1) ∧ m_isc h1 66 8 = true ∧ rM h1 = some (.inl (some (.int (v))), h2) ∧ (∃ m W, MS h2 m W ∧ m 0 = nI t) ∧ (t = 0 → ∃ f, h2.1[83]? = some (aL 1 f) ∧ f 0 = v.toInt64) ∧ INV h2 ∧ h2.2 ≤ h.2 + 1
def PPq (rG : Option mR) (rM : mH → Option mR) (h : mH) : Prop := ∃ v h1 h2, rG = some (.inl (some (.int (v))), h1) ∧ m_isc h1 66 8 = true ∧ rM h1 = some (.inl (some (.int (v))), h2) ∧ INV h2 ∧ h2.2 ≤ h.2 + 1
def MM (r : Option mR) (h1 : mH) (g : gT) (W I : WD) (l r' ll : Nat) (B A1 B1 C1 U : Nat → Int32) (t : Nat) (x : Int32) : Prop := ∃ h2 m2, r = some (.inl (some (.int (x))), h2) ∧ IP h2 g m2 W I l r' ll B A1 B1 C1 U ∧ m2 0 = nI t ∧ h2.1[83]? = h1.1[83]? ∧ h2.2 = h1.2
section Quest
variable {h : mH} {g : gT} {m : Nat → Int32} {W I : WD} {l r ll : Nat} {B A1 B1 C1 U : Nat → Int32}
theorem MA_M {h1 : mH} {rr : Option mR} {t : Nat} {x : Int32} (P : IP h1 g m W I l r ll B A1 B1 C1 U) (q : MA rr h1 m (nI t) (.int x)) : MM rr h1 g W I l r ll B A1 B1 C1 U t x := by
  obtain ⟨h2, e, s⟩ := q
  exact ⟨h2, upd m 0 (nI t), e, IP_sc (IP_t P _) s, pk_us, (sc_at s (by decide)).trans (hne (by decide)), s.1.1⟩
theorem MX_M {h1 : mH} {rr : Option mR} {t : Nat} {x : Int32} (P : IP h1 g m W I l r ll B A1 B1 C1 U) (q : MX rr h1 m (nI t) (.int x)) : MM rr h1 g W I l r ll B A1 B1 C1 U t x := by
  obtain ⟨h2, y, e, s1, s2, s3⟩ := q
  have P1 := IP_t P (nI t)
  obtain ⟨p1, ⟨m1, m2, m3, ⟨F, m4⟩, m5, m6⟩, p3, p4, p5⟩ := P1
  have q : ∀ b, mow b → b ≠ 66 → h2.1[b]? = (tH h1 m (nI t)).1[b]? := fun b hb hn => s3.2.2 b (fun z => by
    rcases z with z | z
    · exact scr_m z hb
    · exact hn z)
  refine ⟨h2, upd (upd m 0 (nI t)) 19 y, e, ⟨IG_out p1 s3 (fun b hb => ?_), ⟨⟨s2, (q 67 (by unfold mow; omega) (by omega)).trans m1.2⟩, m2, (q 68 (by unfold mow; omega) (by omega)).trans m3, ⟨F, (q 69 (by unfold mow; omega) (by omega)).trans m4⟩, (q 70 (by unfold mow; omega) (by omega)).trans m5, (q 71 (by unfold mow; omega) (by omega)).trans m6⟩, p3, s1, s3.2.1.trans p5⟩, ?_, ?_, s3.1⟩
  · rcases hb with z | z
    · exact scr_g z
    · unfold gow; omega
  · rw [pk_un (by omega), pk_us]
  · refine (s3.2.2 83 (fun z => ?_)).trans (hne (by decide))
    rcases z with z | z
    · exact absurd z (by unfold SCR; decide)
    · omega
theorem XQ_ok {rG rL : Option mR} {rM : mH → Option mR} {v : Int32} (P : IP h g m W I l r ll B A1 B1 C1 U) (gq : GA rG h none (.int v)) (Lv : ∀ h1 f, rG = some (.inl (some (.int (v))), h1) → h1.1[83]? = some (aL 1 f) → rL = some (.inl (some (.int (0))), (h1.1.set 83 (aL 1 (vp_updL f 0 v.toInt64)), h1.2))) (hM : ∀ h1, IP h1 g m W I l r ll B A1 B1 C1 U → MM (rM h1) h1 g W I l r ll B A1 B1 C1 U 0 v) : XP rL rM h := by
  obtain ⟨h1, e, s⟩ := gq
  have P1 := IP_sc P s
  obtain ⟨f, e83⟩ := P1.2.2.2.1.2.2.2.2.2.2
  have e1 := Lv h1 f e e83
  obtain ⟨h2, m2, a1, a2, a3, a4, a5⟩ := hM _ (IP_83 P1 (vp_updL f 0 v.toInt64))
  refine ⟨0, _, v, h2, .inl rfl, e1, (IP_83 P1 _).2.1.1.isc, a1, ⟨m2, W, a2.2.1.1, a3⟩, fun _ => ⟨_, a4.trans (hget e83), if_pos rfl⟩, ⟨_, _, _, _, _, _, _, _, _, _, _, _, a2⟩, ?_⟩
  have := s.1.1
  rw [a5]
  show h1.2 ≤ h.2 + 1
  omega
theorem XQ_ex {rG rL : Option mR} {rM : mH → Option mR} {t e : Nat} {w : Value} (ht : t = 1 ∨ t = 2) (P : IP h g m W I l r ll B A1 B1 C1 U) (gq : GA rG h (some e) w) (Le : ∀ h1, rG = some (.inr e, h1) → rL = some (.inl (some (.int (nI t))), h1)) (hM : ∀ h1, IP h1 g m W I l r ll B A1 B1 C1 U → MM (rM h1) h1 g W I l r ll B A1 B1 C1 U t 0) : XP rL rM h := by
  have e1 := Le _ gq
  obtain ⟨h2, m2, a1, a2, a3, a4, a5⟩ := hM _ (IP_n P (h.2 + 1))
  exact ⟨t, _, 0, h2, .inr ht, e1, (IP_n P (h.2 + 1)).2.1.1.isc, a1, ⟨m2, W, a2.2.1.1, a3⟩, fun z => by omega, ⟨_, _, _, _, _, _, _, _, _, _, _, _, a2⟩, by rw [a5]; exact Nat.le_refl _⟩
theorem XQ_pl {rG : Option mR} {rM : mH → Option mR} {v : Int32} (P : IP h g m W I l r ll B A1 B1 C1 U) (gq : GA rG h none (.int v)) (hM : ∀ h1, IP h1 g m W I l r ll B A1 B1 C1 U → MM (rM h1) h1 g W I l r ll B A1 B1 C1 U 0 v) : PPq rG rM h := by
  obtain ⟨h1, e, s⟩ := gq
  obtain ⟨h2, m2, a1, a2, a3, a4, a5⟩ := hM _ (IP_sc P s)
  exact ⟨v, h1, h2, e, (IP_sc P s).2.1.1.isc, a1, ⟨_, _, _, _, _, _, _, _, _, _, _, _, a2⟩, by rw [a5, s.1.1]; omega⟩
theorem IP_K0 (P : IP h g m W I l r ll B A1 B1 C1 U) : m_isc h 0 7 = true := iscG P.1.1.1
theorem IP_la (P : IP h g m W I l r ll B A1 B1 C1 U) : g.2.2.1 = 28 ∨ g.2.2.1 = 35 := (gok_lt P.1.1.2).2.2.2.2.2.2.2.1
theorem X_cart (O : mO) (d : Nat) (P : IP h g m W I l r ll B A1 B1 C1 U) (x1 x2 : Int32) : XP (ev O (d + 39) 267 0 [.ref 0, .int x1, .int x2, .ref 83, mJ] [] h) (fun h1 => ev O (d + 39) 198 0 [.ref 66, .int x1, .int x2] [] h1) h := by
  have hc : codeCa W x1 x2 = 0 ∨ codeCa W x1 x2 = 1 ∨ codeCa W x1 x2 = 2 := by
    unfold codeCa
    split
    · split <;> simp
    · simp
  have gq := Gcart_ev O (d + 38) (IP_CG P) x1 x2
  have mq := fun h1 (P1 : IP h1 g m W I l r ll B A1 B1 C1 U) => MA_M P1 (Mcart_ev O (d + 37) P1.2.1.1 P1.1.2.1.2.1 x1 x2)
  rcases hc with c | c | c
  · rw [c] at gq mq
    exact XQ_ok P gq (fun h1 f q e => Lcart_v O (d + 38) x1 x2 (IP_K0 P) q e) mq
  · rw [c] at gq mq
    exact XQ_ex (t := 1) (e := 1) (by omega) P gq (fun h1 q => Lcart_e1 O (d + 38) x1 x2 (IP_K0 P) q) mq
  · rw [c] at gq mq
    exact XQ_ex (t := 2) (e := 2) (by omega) P gq (fun h1 q => Lcart_e2 O (d + 38) x1 x2 (IP_K0 P) q) mq
theorem X_load (O : mO) (d : Nat) (P : IP h g m W I l r ll B A1 B1 C1 U) (x1 x2 : Int32) : XP (ev O (d + 39) 270 0 [.ref 0, .int x1, .int x2, .ref 83, mJ] [] h) (fun h1 => ev O (d + 39) 203 0 [.ref 66, .int x1, .int x2] [] h1) h := by
  have hc : codePH W x1 x2 = 0 ∨ codePH W x1 x2 = 1 := by
    unfold codePH
    split
    · simp
    · simp
  have gq := Gload_ev O (d + 36) (IP_CG P) x1 x2
  have mq := fun h1 (P1 : IP h1 g m W I l r ll B A1 B1 C1 U) => MA_M P1 (Mload_ev O (d + 36) P1.2.1.1 P1.1.2.1.2.1 x1 x2)
  rcases hc with c | c
  · rw [c] at gq mq
    exact XQ_ok P gq (fun h1 f q e => Lload_v O (d + 38) x1 x2 (IP_K0 P) q e) mq
  · rw [c] at gq mq
    exact XQ_ex (t := 1) (e := 1) (by omega) P gq (fun h1 q => Lload_e1 O (d + 38) x1 x2 (IP_K0 P) q) mq
theorem X_holds (O : mO) (d : Nat) (P : IP h g m W I l r ll B A1 B1 C1 U) (x1 x2 x3 : Int32) : XP (ev O (d + 39) 271 0 [.ref 0, .int x1, .int x2, .int x3, .ref 83, mJ] [] h) (fun h1 => ev O (d + 39) 204 0 [.ref 66, .int x1, .int x2, .int x3] [] h1) h := by
  have hc : codeHo W x1 x2 x3 = 0 ∨ codeHo W x1 x2 x3 = 1 ∨ codeHo W x1 x2 x3 = 2 := by
    unfold codeHo
    split
    · split <;> simp
    · simp
  have gq := Gholds_ev O (d + 35) (IP_CG P) x1 x2 x3
  have mq := fun h1 (P1 : IP h1 g m W I l r ll B A1 B1 C1 U) => MA_M P1 (Mholds_ev O (d + 35) P1.2.1.1 P1.1.2.1.2.1 x1 x2 x3)
  rcases hc with c | c | c
  · rw [c] at gq mq
    exact XQ_ok P gq (fun h1 f q e => Lholds_v O (d + 38) x1 x2 x3 (IP_K0 P) (bI01 _) q e) mq
  · rw [c] at gq mq
    exact XQ_ex (t := 1) (e := 1) (by omega) P gq (fun h1 q => Lholds_e1 O (d + 38) x1 x2 x3 (IP_K0 P) q) mq
  · rw [c] at gq mq
    exact XQ_ex (t := 2) (e := 0) (by omega) P gq (fun h1 q => Lholds_e0 O (d + 38) x1 x2 x3 (IP_K0 P) q) mq
theorem X_breaks (O : mO) (d : Nat) (P : IP h g m W I l r ll B A1 B1 C1 U) (x1 : Int32) : XP (ev O (d + 39) 272 0 [.ref 0, .int x1, .ref 83, mJ] [] h) (fun h1 => ev O (d + 39) 205 0 [.ref 66, .int x1, mJ, mJ] [] h1) h := by
  have hc : codeHr x1 = 0 ∨ codeHr x1 = 1 := by
    unfold codeHr
    split
    · simp
    · simp
  have gq := Gbreaks_ev O (d + 35) (IP_CG P) x1
  have mq := fun h1 (P1 : IP h1 g m W I l r ll B A1 B1 C1 U) => MA_M P1 (Mbreaks_ev O (d + 35) P1.2.1.1 P1.1.2.1.2.1 x1)
  rcases hc with c | c
  · rw [c] at gq mq
    exact XQ_ok P gq (fun h1 f q e => Lbreaks_v O (d + 38) x1 (IP_K0 P) q e) mq
  · rw [c] at gq mq
    exact XQ_ex (t := 1) (e := 1) (by omega) P gq (fun h1 q => Lbreaks_e1 O (d + 38) x1 (IP_K0 P) q) mq
theorem X_light (O : mO) (d : Nat) (P : IP h g m W I l r ll B A1 B1 C1 U) (x1 x2 x3 : Int32) : XP (ev O (d + 39) 273 0 [.ref 0, .int x1, .int x2, .int x3, .ref 83, mJ] [] h) (fun h1 => ev O (d + 39) 208 0 [.ref 66, .int x1, .int x2, .int x3, mJ] [] h1) h := by
  have hc : codeLi W x1 x2 x3 = 0 ∨ codeLi W x1 x2 x3 = 1 ∨ codeLi W x1 x2 x3 = 2 := by
    unfold codeLi
    split
    · split <;> simp
    · simp
  have gq := Glight_ev O (d + 35) (IP_CG P) x1 x2 x3
  have mq := fun h1 (P1 : IP h1 g m W I l r ll B A1 B1 C1 U) => MA_M P1 (Mlight_ev O (d + 35) P1.2.1.1 P1.1.2.1.2.1 x1 x2 x3)
  rcases hc with c | c | c
  · rw [c] at gq mq
    exact XQ_ok P gq (fun h1 f q e => Llight_v O (d + 38) x1 x2 x3 (IP_K0 P) q e) mq
  · rw [c] at gq mq
    exact XQ_ex (t := 1) (e := 1) (by omega) P gq (fun h1 q => Llight_e1 O (d + 38) x1 x2 x3 (IP_K0 P) q) mq
  · rw [c] at gq mq
    exact XQ_ex (t := 2) (e := 2) (by omega) P gq (fun h1 q => Llight_e2 O (d + 38) x1 x2 x3 (IP_K0 P) q) mq
theorem X_bill (O : mO) (d : Nat) (P : IP h g m W I l r ll B A1 B1 C1 U) (x1 x2 x3 : Int32) : XP (ev O (d + 39) 274 0 [.ref 0, .int x1, .int x2, .int x3, .ref 83, mJ] [] h) (fun h1 => ev O (d + 39) 209 0 [.ref 66, .int x1, .int x2, .int x3, mJ, mJ] [] h1) h := by
  have hc : codeBi x1 x2 x3 = 0 ∨ codeBi x1 x2 x3 = 1 ∨ codeBi x1 x2 x3 = 2 := by
    unfold codeBi
    split
    · split <;> simp
    · simp
  have gq := Gbill_ev O (d + 36) (IP_CG P) x1 x2 x3
  have mq := fun h1 (P1 : IP h1 g m W I l r ll B A1 B1 C1 U) => MA_M P1 (Mbill_ev O (d + 36) P1.2.1.1 P1.1.2.1.2.1 x1 x2 x3)
  rcases hc with c | c | c
  · rw [c] at gq mq
    exact XQ_ok P gq (fun h1 f q e => Lbill_v O (d + 38) x1 x2 x3 (IP_K0 P) q e) mq
  · rw [c] at gq mq
    exact XQ_ex (t := 1) (e := 1) (by omega) P gq (fun h1 q => Lbill_e1 O (d + 38) x1 x2 x3 (IP_K0 P) q) mq
  · rw [c] at gq mq
    exact XQ_ex (t := 2) (e := 0) (by omega) P gq (fun h1 q => Lbill_e0 O (d + 38) x1 x2 x3 (IP_K0 P) q) mq
theorem X_seen (O : mO) (d : Nat) (P : IP h g m W I l r ll B A1 B1 C1 U) (x1 x2 : Int32) : XP (ev O (d + 39) 275 0 [.ref 0, .int x1, .int x2, .ref 83, mJ] [] h) (fun h1 => ev O (d + 39) 214 0 [.ref 66, .int x1, .int x2] [] h1) h := by
  have hc : codePH W x1 x2 = 0 ∨ codePH W x1 x2 = 1 := by
    unfold codePH
    split
    · simp
    · simp
  have gq := Gseen_ev O (d + 33) (IP_CG P) (IP_la P) P.1.2.2.1.1 x1 x2
  have mq := fun h1 (P1 : IP h1 g m W I l r ll B A1 B1 C1 U) => MA_M P1 (Mseen_ev O (d + 32) P1.2.1.1 P1.1.2.1.2.1 P1.2.2.2.1 P1.1.2.2.1.1.tw x1 x2)
  rcases hc with c | c
  · rw [c] at gq mq
    exact XQ_ok P gq (fun h1 f q e => Lseen_v O (d + 38) x1 x2 (IP_K0 P) (bI01 _) q e) mq
  · rw [c] at gq mq
    exact XQ_ex (t := 1) (e := 1) (by omega) P gq (fun h1 q => Lseen_e1 O (d + 38) x1 x2 (IP_K0 P) q) mq
theorem X_fined (O : mO) (d : Nat) (P : IP h g m W I l r ll B A1 B1 C1 U) (x1 x2 : Int32) : XP (ev O (d + 39) 276 0 [.ref 0, .int x1, .int x2, .ref 83, mJ] [] h) (fun h1 => ev O (d + 39) 215 0 [.ref 66, .int x1, .int x2, mJ, mJ] [] h1) h := by
  have hc : codePH W x1 x2 = 0 ∨ codePH W x1 x2 = 1 := by
    unfold codePH
    split
    · simp
    · simp
  have gq := Gfined_ev O (d + 32) (IP_CG P) (IP_la P) P.1.2.2.1.1 x1 x2
  have mq := fun h1 (P1 : IP h1 g m W I l r ll B A1 B1 C1 U) => MA_M P1 (Mfined_ev O (d + 32) P1.2.1.1 P1.1.2.1.2.1 P1.2.2.2.1 P1.1.2.2.1.1.tw x1 x2)
  rcases hc with c | c
  · rw [c] at gq mq
    exact XQ_ok P gq (fun h1 f q e => Lfined_v O (d + 38) x1 x2 (IP_K0 P) q e) mq
  · rw [c] at gq mq
    exact XQ_ex (t := 1) (e := 1) (by omega) P gq (fun h1 q => Lfined_e1 O (d + 38) x1 x2 (IP_K0 P) q) mq
theorem X_sale (O : mO) (d : Nat) (PL : PLC O) (P : IP h g m W I l r ll B A1 B1 C1 U) (x1 x2 : Int32) : XP (ev O (d + 39) 279 0 [.ref 0, .int x1, .int x2, .ref 83, mJ] [] h) (fun h1 => ev O (d + 39) 221 0 [.ref 66, .int x1, .int x2, mJ] [] h1) h := by
  have hc : codeSa W x1 x2 = 0 ∨ codeSa W x1 x2 = 1 := by
    unfold codeSa
    split
    · simp
    · simp
  have gq := Gsale_ev O (d + 32) PL (IP_CG P) (IP_la P) P.1.2.2.1.1 x1 x2
  have mq := fun h1 (P1 : IP h1 g m W I l r ll B A1 B1 C1 U) => MX_M P1 (Msale_ev O (d + 31) P1.2.1.1 P1.1.2.1.2.1 P1.2.2.2.1 P1.1.2.2.1.1.tw x1 x2)
  rcases hc with c | c
  · rw [c] at gq mq
    exact XQ_ok P gq (fun h1 f q e => Lsale_v O (d + 38) x1 x2 (IP_K0 P) q e) mq
  · rw [c] at gq mq
    exact XQ_ex (t := 1) (e := 1) (by omega) P gq (fun h1 q => Lsale_e1 O (d + 38) x1 x2 (IP_K0 P) q) mq
theorem X_lost (O : mO) (d : Nat) (PL : PLC O) (P : IP h g m W I l r ll B A1 B1 C1 U) (x1 x2 : Int32) : XP (ev O (d + 39) 280 0 [.ref 0, .int x1, .int x2, .ref 83, mJ] [] h) (fun h1 => ev O (d + 39) 222 0 [.ref 66, .int x1, .int x2, mJ, mJ, mJ] [] h1) h := by
  have hc : codeLo W x1 x2 = 0 ∨ codeLo W x1 x2 = 1 := by
    unfold codeLo
    split
    · simp
    · simp
  have gq := Glost_ev O (d + 32) PL (IP_CG P) (IP_la P) P.1.2.2.1.1 x1 x2
  have mq := fun h1 (P1 : IP h1 g m W I l r ll B A1 B1 C1 U) => MX_M P1 (Mlost_ev O (d + 31) P1.2.1.1 P1.1.2.1.2.1 P1.2.2.2.1 P1.1.2.2.1.1.tw x1 x2)
  rcases hc with c | c
  · rw [c] at gq mq
    exact XQ_ok P gq (fun h1 f q e => Llost_v O (d + 38) x1 x2 (IP_K0 P) q e) mq
  · rw [c] at gq mq
    exact XQ_ex (t := 1) (e := 1) (by omega) P gq (fun h1 q => Llost_e1 O (d + 38) x1 x2 (IP_K0 P) q) mq
theorem X_share (O : mO) (d : Nat) (P : IP h g m W I l r ll B A1 B1 C1 U) (x1 x2 x3 : Int32) : XP (ev O (d + 39) 281 0 [.ref 0, .int x1, .int x2, .int x3, .ref 83, mJ] [] h) (fun h1 => ev O (d + 39) 223 0 [.ref 66, .int x1, .int x2, .int x3, mJ, mJ, mJ, mJ] [] h1) h := by
  have hc : codeSh W x1 x2 x3 = 0 ∨ codeSh W x1 x2 x3 = 1 ∨ codeSh W x1 x2 x3 = 2 := by
    unfold codeSh
    split
    · split <;> simp
    · simp
  have gq := Gshare_ev O (d + 35) (IP_CG P) x1 x2 x3
  have mq := fun h1 (P1 : IP h1 g m W I l r ll B A1 B1 C1 U) => MA_M P1 (Mshare_ev O (d + 37) P1.2.1.1 P1.1.2.1.2.1 P1.2.2.2.1 x1 x2 x3)
  rcases hc with c | c | c
  · rw [c] at gq mq
    exact XQ_ok P gq (fun h1 f q e => Lshare_v O (d + 38) x1 x2 x3 (IP_K0 P) q e) mq
  · rw [c] at gq mq
    exact XQ_ex (t := 1) (e := 1) (by omega) P gq (fun h1 q => Lshare_e1 O (d + 38) x1 x2 x3 (IP_K0 P) q) mq
  · rw [c] at gq mq
    exact XQ_ex (t := 2) (e := 0) (by omega) P gq (fun h1 q => Lshare_e0 O (d + 38) x1 x2 x3 (IP_K0 P) q) mq
theorem X_weakest (O : mO) (d : Nat) (P : IP h g m W I l r ll B A1 B1 C1 U) (x1 : Int32) : XP (ev O (d + 39) 282 0 [.ref 0, .int x1, .ref 83, mJ] [] h) (fun h1 => ev O (d + 39) 235 0 [.ref 66, .int x1, mJ, mJ] [] h1) h := by
  have hc : codeHr x1 = 0 ∨ codeHr x1 = 1 := by
    unfold codeHr
    split
    · simp
    · simp
  have gq := Gweakest_ev O (d + 36) (IP_CG P) x1
  have mq := fun h1 (P1 : IP h1 g m W I l r ll B A1 B1 C1 U) => MA_M P1 (Mweakest_ev O (d + 36) P1.2.1.1 P1.1.2.1.2.1 x1)
  rcases hc with c | c
  · rw [c] at gq mq
    exact XQ_ok P gq (fun h1 f q e => Lweakest_v O (d + 38) x1 (IP_K0 P) q e) mq
  · rw [c] at gq mq
    exact XQ_ex (t := 1) (e := 1) (by omega) P gq (fun h1 q => Lweakest_e1 O (d + 38) x1 (IP_K0 P) q) mq
theorem X_strengthen (O : mO) (d : Nat) (P : IP h g m W I l r ll B A1 B1 C1 U) (x1 x2 x3 x4 : Int32) : XP (ev O (d + 39) 283 0 [.ref 0, .int x1, .int x2, .int x3, .int x4, .ref 83, mJ] [] h) (fun h1 => ev O (d + 39) 237 0 [.ref 66, .int x1, .int x2, .int x3, .int x4, mJ, mJ] [] h1) h := by
  have hc : codeS W x1 x2 x3 x4 = 0 ∨ codeS W x1 x2 x3 x4 = 1 ∨ codeS W x1 x2 x3 x4 = 2 := by
    unfold codeS
    split
    · split <;> simp
    · simp
  have gq := Gstrengthen_ev O (d + 34) (IP_CG P) x1 x2 x3 x4
  have mq := fun h1 (P1 : IP h1 g m W I l r ll B A1 B1 C1 U) => MA_M P1 (Mstrengthen_ev O (d + 32) P1.2.1.1 P1.1.2.1.2.1 P1.2.2.2.1 x1 x2 x3 x4)
  rcases hc with c | c | c
  · rw [c] at gq mq
    exact XQ_ok P gq (fun h1 f q e => Lstrengthen_v O (d + 38) x1 x2 x3 x4 (IP_K0 P) q e) mq
  · rw [c] at gq mq
    exact XQ_ex (t := 1) (e := 1) (by omega) P gq (fun h1 q => Lstrengthen_e1 O (d + 38) x1 x2 x3 x4 (IP_K0 P) q) mq
  · rw [c] at gq mq
    exact XQ_ex (t := 2) (e := 0) (by omega) P gq (fun h1 q => Lstrengthen_e0 O (d + 38) x1 x2 x3 x4 (IP_K0 P) q) mq
theorem X_would (O : mO) (d : Nat) (P : IP h g m W I l r ll B A1 B1 C1 U) (x1 x2 : Int32) : XP (ev O (d + 39) 285 0 [.ref 0, .int x1, .int x2, .ref 83, mJ] [] h) (fun h1 => ev O (d + 39) 227 0 [.ref 66, .int x1, .int x2] [] h1) h := by
  have hc : codeWo W x1 x2 = 0 ∨ codeWo W x1 x2 = 1 ∨ codeWo W x1 x2 = 2 := by
    unfold codeWo
    split
    · split <;> simp
    · simp
  have gq := Gwould_ev O (d + 35) (IP_CG P) x1 x2
  have mq := fun h1 (P1 : IP h1 g m W I l r ll B A1 B1 C1 U) => MA_M P1 (Mwould_ev O (d + 35) P1.2.1.1 P1.1.2.1.2.1 x1 x2)
  rcases hc with c | c | c
  · rw [c] at gq mq
    exact XQ_ok P gq (fun h1 f q e => Lwould_v O (d + 38) x1 x2 (IP_K0 P) q e) mq
  · rw [c] at gq mq
    exact XQ_ex (t := 1) (e := 1) (by omega) P gq (fun h1 q => Lwould_e1 O (d + 38) x1 x2 (IP_K0 P) q) mq
  · rw [c] at gq mq
    exact XQ_ex (t := 2) (e := 0) (by omega) P gq (fun h1 q => Lwould_e0 O (d + 38) x1 x2 (IP_K0 P) q) mq
theorem X_parade (O : mO) (d : Nat) (P : IP h g m W I l r ll B A1 B1 C1 U) (x1 x2 x3 x4 x5 : Int32) : XP (ev O (d + 39) 287 0 [.ref 0, .int x1, .int x2, .int x3, .int x4, .int x5, .ref 83, mJ] [] h) (fun h1 => ev O (d + 39) 233 0 [.ref 66, .int x1, .int x2, .int x3, .int x4, .int x5, mJ, mJ, mJ, mJ, mJ] [] h1) h := by
  have hc : codeW W x1 x2 x3 x4 x5 = 0 ∨ codeW W x1 x2 x3 x4 x5 = 1 ∨ codeW W x1 x2 x3 x4 x5 = 2 := by
    unfold codeW
    split
    · split <;> simp
    · simp
  have gq := Gparade_ev O (d + 35) (IP_CG P) x1 x2 x3 x4 x5
  have mq := fun h1 (P1 : IP h1 g m W I l r ll B A1 B1 C1 U) => MA_M P1 (Mparade_ev O (d + 33) P1.2.1.1 P1.1.2.1.2.1 P1.2.2.2.1 x1 x2 x3 x4 x5)
  rcases hc with c | c | c
  · rw [c] at gq mq
    exact XQ_ok P gq (fun h1 f q e => Lparade_v O (d + 38) x1 x2 x3 x4 x5 (IP_K0 P) q e) mq
  · rw [c] at gq mq
    exact XQ_ex (t := 1) (e := 1) (by omega) P gq (fun h1 q => Lparade_e1 O (d + 38) x1 x2 x3 x4 x5 (IP_K0 P) q) mq
  · rw [c] at gq mq
    exact XQ_ex (t := 2) (e := 0) (by omega) P gq (fun h1 q => Lparade_e0 O (d + 38) x1 x2 x3 x4 x5 (IP_K0 P) q) mq
theorem X_heaviest (O : mO) (d : Nat) (P : IP h g m W I l r ll B A1 B1 C1 U) (x1 x2 x3 : Int32) : XP (ev O (d + 39) 288 0 [.ref 0, .int x1, .int x2, .int x3, .ref 83, mJ] [] h) (fun h1 => ev O (d + 39) 234 0 [.ref 66, .int x1, .int x2, .int x3, mJ, mJ, mJ] [] h1) h := by
  have hc : codeH W x1 x2 x3 = 0 ∨ codeH W x1 x2 x3 = 1 := by
    unfold codeH
    split
    · simp
    · simp
  have gq := Gheaviest_ev O (d + 34) (IP_CG P) x1 x2 x3
  have mq := fun h1 (P1 : IP h1 g m W I l r ll B A1 B1 C1 U) => MA_M P1 (Mheaviest_ev O (d + 33) P1.2.1.1 P1.1.2.1.2.1 P1.2.2.2.1 x1 x2 x3)
  rcases hc with c | c
  · rw [c] at gq mq
    exact XQ_ok P gq (fun h1 f q e => Lheaviest_v O (d + 38) x1 x2 x3 (IP_K0 P) q e) mq
  · rw [c] at gq mq
    exact XQ_ex (t := 1) (e := 1) (by omega) P gq (fun h1 q => Lheaviest_e1 O (d + 38) x1 x2 x3 (IP_K0 P) q) mq
theorem X_lamps (O : mO) (d : Nat) (P : IP h g m W I l r ll B A1 B1 C1 U) (x1 x2 : Int32) : XP (ev O (d + 39) 290 0 [.ref 0, .int x1, .int x2, .ref 83, mJ] [] h) (fun h1 => ev O (d + 39) 252 0 [.ref 66, .int x1, .int x2, mJ, mJ, mJ] [] h1) h := by
  have hc : codeHr x2 = 0 ∨ codeHr x2 = 1 := by
    unfold codeHr
    split
    · simp
    · simp
  have gq := Glamps_ev O (d + 34) (IP_CG P) x1 x2
  have mq := fun h1 (P1 : IP h1 g m W I l r ll B A1 B1 C1 U) => MA_M P1 (Mlamps_ev O (d + 35) P1.2.1.1 P1.1.2.1.2.1 P1.2.2.2.1 x1 x2)
  rcases hc with c | c
  · rw [c] at gq mq
    exact XQ_ok P gq (fun h1 f q e => Llamps_v O (d + 38) x1 x2 (IP_K0 P) q e) mq
  · rw [c] at gq mq
    exact XQ_ex (t := 1) (e := 1) (by omega) P gq (fun h1 q => Llamps_e1 O (d + 38) x1 x2 (IP_K0 P) q) mq
theorem X_spread (O : mO) (d : Nat) (P : IP h g m W I l r ll B A1 B1 C1 U) (x1 : Int32) : PPq (ev O (d + 39) 125 0 [.ref 0, .int x1] [] h) (fun h1 => ev O (d + 39) 241 0 [.ref 66, .int x1, mJ, mJ, mJ, mJ] [] h1) h :=
  XQ_pl P (Gspread_ev O (d + 37) (IP_CG P) x1) (fun h1 P1 => MA_M (t := 0) P1 (Mspread_ev O (d + 37) P1.2.1.1 P1.1.2.1.2.1 P1.2.2.2.1 x1))
theorem X_odds (O : mO) (d : Nat) (P : IP h g m W I l r ll B A1 B1 C1 U) : PPq (ev O (d + 39) 132 0 [.ref 0] [] h) (fun h1 => ev O (d + 39) 240 0 [.ref 66, mJ, mJ, mJ] [] h1) h :=
  XQ_pl P (Godds_ev O (d + 37) (IP_CG P) ) (fun h1 P1 => MA_M (t := 0) P1 (Modds_ev O (d + 37) P1.2.1.1 P1.1.2.1.2.1 ))
theorem X_may (O : mO) (d : Nat) (P : IP h g m W I l r ll B A1 B1 C1 U) (x1 : Int32) : PPq (ev O (d + 39) 133 0 [.ref 0, .int x1] [] h) (fun h1 => ev O (d + 39) 245 0 [.ref 66, .int x1] [] h1) h :=
  XQ_pl P (Gmay_ev O (d + 37) (IP_CG P) x1) (fun h1 P1 => MA_M (t := 0) P1 (Mmay_ev O (d + 34) P1.2.1.1 P1.1.2.1.2.1 x1))
theorem X_round (O : mO) (d : Nat) (P : IP h g m W I l r ll B A1 B1 C1 U) : PPq (ev O (d + 39) 134 0 [.ref 0] [] h) (fun h1 => ev O (d + 39) 247 0 [.ref 66] [] h1) h :=
  XQ_pl P (Ground_ev O (d + 36) (IP_CG P) ) (fun h1 P1 => MA_M (t := 0) P1 (Mround_ev O (d + 33) P1.2.1.1 P1.1.2.1.2.1 ))
theorem X_rounds (O : mO) (d : Nat) (P : IP h g m W I l r ll B A1 B1 C1 U) : PPq (ev O (d + 39) 136 0 [.ref 0] [] h) (fun h1 => ev O (d + 39) 250 0 [.ref 66, mJ, mJ] [] h1) h :=
  XQ_pl P (Grounds_ev O (d + 35) (IP_CG P) ) (fun h1 P1 => MA_M (t := 0) P1 (Mrounds_ev O (d + 33) P1.2.1.1 P1.1.2.1.2.1 P1.2.2.2.1 ))
theorem X_pane (O : mO) (d : Nat) (P : IP h g m W I l r ll B A1 B1 C1 U) (x1 x2 : Int32) : XP (ev O (d + 39) 266 0 [.ref 0, .int x1, .int x2, .ref 83, mJ] [] h) (fun h1 => ev O (d + 39) 197 0 [.ref 66, .int x1, .int x2] [] h1) h := by
  have gq := Gpane_ev O (d + 36) P.1.1.1 P.1.2.1.1 P.1.2.1.2.1 x1 x2
  have mq := fun h1 (P1 : IP h1 g m W I l r ll B A1 B1 C1 U) => Mpane_ev O (d + 36) P1.2.1.1 P1.1.2.1.2.1 x1 x2
  cases c1 : inB x1 0 (nI (pN W) - 1)
  · rw [c1] at gq mq
    exact XQ_ex (t := 1) (e := 1) (w := .int 0) (by omega) P gq (fun h1 q => Lpane_e1 O (d + 38) x1 x2 (IP_K0 P) q) (fun h1 P1 => MA_M (t := 1) P1 ⟨_, mq h1 P1, sc.rf _⟩)
  · rw [c1] at gq mq
    cases c2 : inB x2 0 6
    · rw [c2] at gq mq
      exact XQ_ex (t := 2) (e := 2) (w := .int 0) (by omega) P gq (fun h1 q => Lpane_e2 O (d + 38) x1 x2 (IP_K0 P) q) (fun h1 P1 => MA_M (t := 2) P1 ⟨_, mq h1 P1, sc.rf _⟩)
    · rw [c2] at gq mq
      exact XQ_ok P ⟨_, gq, sc.rf _⟩ (fun h1 f q e => Lpane_v O (d + 38) x1 x2 (IP_K0 P) q e) (fun h1 P1 => MA_M (t := 0) P1 ⟨_, mq h1 P1, sc.rf _⟩)
theorem X_trace (O : mO) (d : Nat) (P : IP h g m W I l r ll B A1 B1 C1 U) (x1 x2 : Int32) (z : Bool) : XP (ev O (d + 39) 286 0 [.ref 0, .int x1, .int x2, .int (bI z), .ref 83, mJ] [] h) (fun h1 => ev O (d + 39) 229 0 [.ref 66, .int x1, .int x2, .int (bI z), mJ, mJ, mJ, mJ] [] h1) h := by
  obtain ⟨sl, gq⟩ := Gtrace_ev O (d + 34) P.1.1.1 P.1.2.1.1 (show g.1 < 28 by have := (gok_lt P.1.1.2).1; omega) P.2.2.2.1.2.1 P.1.2.1.2.1 x1 x2 z
  have mq := fun h1 (P1 : IP h1 g m W I l r ll B A1 B1 C1 U) => Mtrace_ev O (d + 35) P1.2.1.1 P1.1.2.1.2.1 x1 x2 z
  cases c1 : inB x2 1 300
  · rw [c1] at gq mq
    exact XQ_ex (t := 1) (e := 0) (w := .int 0) (by omega) P gq (fun h1 q => Ltrace_e0 O (d + 38) x1 x2 (bI z) (IP_K0 P) q) (fun h1 P1 => MA_M (t := 1) P1 ⟨_, mq h1 P1, sc.rf _⟩)
  · rw [c1] at gq mq
    exact XQ_ok P ⟨_, gq, sc_hk sl⟩ (fun h1 f q e => Ltrace_v O (d + 38) x1 x2 (bI z) (IP_K0 P) q e) (fun h1 P1 => MA_M (t := 0) P1 ⟨_, mq h1 P1, sc.rf _⟩)
theorem X_fault (O : mO) (d : Nat) (P : IP h g m W I l r ll B A1 B1 C1 U) : PPq (ev O (d + 39) 106 0 [.ref 0] [] h) (fun h1 => ev O (d + 39) 174 0 [.ref 66] [] h1) h := by
  have mq := Mfault_ev O (d + 39) P.2.1.1
  rw [P.2.1.2.1.2.2.2] at mq
  exact ⟨_, h, _, Gfault_ev O (d + 39) P.1.1.1, P.2.1.1.isc, mq, ⟨_, _, _, _, _, _, _, _, _, _, _, _, IP_t P 0⟩, Nat.le_succ _⟩
theorem X_count (O : mO) (d : Nat) (P : IP h g m W I l r ll B A1 B1 C1 U) (x1 : Int32) : PPq (ev O (d + 39) 141 0 [.ref 0, .int x1] [] h) (fun h1 => ev O (d + 39) 253 0 [.ref 66, .int x1, mJ, mJ] [] h1) h := by
  have mq := Mcount_ev O (d + 36) P.2.1.1 P.1.2.1.2.1 x1
  rw [P.2.1.2.1.2.1] at mq
  exact ⟨_, h, _, Gcount_ev O (d + 38) (IP_CG P) P.1.2.2.1.1 P.1.2.2.2.2.1.1 x1, P.2.1.1.isc, mq, ⟨_, _, _, _, _, _, _, _, _, _, _, _, IP_t P 0⟩, Nat.le_succ _⟩
end Quest
