/-! Texts: class and reference read alike -/
section ActsZ
variable {h : mH} {g : gT} {m : Nat → Int32} {W I : WD} {l r ll : Nat} {B A1 B1 C1 U : Nat → Int32}
theorem set83 {h1 : mH} (S : SH h1) (f : Nat → Int64) : SH ((h1.1.set 83 (aL 1 f), h1.2) : mH) := by
  refine ⟨fun b n q => ?_, ?_, ?_, ?_, ?_, ?_, ?_⟩
  · obtain ⟨f, e⟩ := S.1 b n q
    exact ⟨f, (hne (tab_ne q).2.2.2.2.2.2.symm).trans e⟩
  · exact S.2.1.elim fun s e => ⟨s, (hne (by decide)).trans e⟩
  · exact S.2.2.1.elim fun x e => e.elim fun y e => e.elim fun z e => ⟨x, y, z, (hne (by decide)).trans e⟩
  · exact S.2.2.2.1.elim fun s e => ⟨s, (hne (by decide)).trans e⟩
  · exact S.2.2.2.2.1.elim fun s e => ⟨s, (hne (by decide)).trans e⟩
  · exact S.2.2.2.2.2.1.elim fun s e => ⟨s, (hne (by decide)).trans e⟩
  · exact S.2.2.2.2.2.2.elim fun s e => ⟨f, hget e⟩
/-- a throw: class first, then the reference -/
theorem fin_ex {rL : Option mR} {rM : mH → Option mR} {h1 h2 : mH} {t : Nat} {g' : gT} {m2 U' : Nat → Int32} {W2 I2 : WD} {l' r' ll' : Nat} {B' A1' B1' C1' : Nat → Int32} {v : Int32} (ht : t = 1 ∨ t = 2) (i66 : m_isc h1 66 8 = true) (eL : rL = some (.inl (some (.int (nI t))), (h1.1, h1.2 + 1))) (eM : rM ((h1.1, h1.2 + 1) : mH) = some (.inl (some (.int (v))), h2)) (P2 : IP h2 g' m2 W2 I2 l' r' ll' B' A1' B1' C1' U') (m0 : m2 0 = nI t) (n : h2.2 = h1.2 + 1) (k : h1.2 = h.2) : XP rL rM h := ⟨t, _, v, h2, .inr ht, eL, i66, eM, ⟨m2, W2, P2.2.1.1, m0⟩, fun z => by omega, ⟨_, _, _, _, _, _, _, _, _, _, _, _, P2⟩, by omega⟩
theorem X_city (O : mO) (d : Nat) (XC : CTX O) (XM : MTX O) (P : IP h g m W I l r ll B A1 B1 C1 U) : XP (ev O (d + 39) 264 0 [.ref 0, .ref 83, mJ] [] h) (fun h1 => ev O (d + 39) 189 0 [.ref 66, mJ, mJ] [] h1) h := by
  obtain ⟨pG, pM, pR, pS, pL⟩ := P
  have P : IP h g m W I l r ll B A1 B1 C1 U := ⟨pG, pM, pR, pS, pL⟩
  obtain ⟨hr, hll⟩ := IP_r P
  obtain ⟨⟨g1, g2⟩, ⟨c1, R, V0, c3⟩, ⟨a1, a2, a3, a4⟩, ⟨⟨p, t, w, t1⟩, t2, t3⟩, p1, im⟩ := pG
  have k := gok_lt g2
  have gq := Gcity_ev O (d + 29) XC g1 c1 R c3 g2.1 t1 t3 t2 p1
  have oo : ∀ b, CGc g b → b = 0 ∨ b = 49 ∨ b = 51 ∨ (g.1 ≤ b ∧ b ≤ g.1 + 8) ∨ (g.2.1 ≤ b ∧ b ≤ g.2.1 + 8) := fun b hb => by unfold CGc CB at hb; exact hb
  -- what both halves have after the class's call
  have mid : ∀ {h1 : mH}, out (CGc g) h h1 → IM h1 m W I l r B U g.2.2.2.2.1 g.2.2.2.2.2 ∧ SH h1 ∧ h1.1.length = 84 ∧ h1.2 = h.2 ∧ LA h1 g.2.2.1 W ∧ LF h1 28 ∧ LF h1 35 ∧ LF h1 42 ∧ h1.1[50]? = some (aB 400 B) ∧ ((g.2.2.2.2.2 = 0 ∧ ∃ V, CA h1 19 V) ∨ (g.2.2.2.2.2 = 1 ∧ CA h1 19 I ∧ rng I ∧ LA h1 42 I)) := by
    intro h1 o
    have lf : ∀ {a : Nat}, (a = 28 ∨ a = 35 ∨ a = 42) → LF h a → LF h1 a := fun ha L => LF_out L o (fun b hb z => by have := oo b hb; unfold LB at z; omega)
    have la : ∀ {a : Nat} {V : WD}, (a = 28 ∨ a = 35 ∨ a = 42) → LA h a V → LA h1 a V := fun ha L => LA_out L o (fun b hb z => by have := oo b hb; unfold LB at z; omega)
    have cc : ∀ {V : WD}, CA h 19 V → CA h1 19 V := fun H => H.out o (fun b hb => by have := oo b hb; omega)
    refine ⟨IM_out pM o (fun b hb => by have := oo b hb; unfold mow; omega), SH_out o (fun b hb => by have := oo b hb; unfold scb; rw [decide_eq_false_iff_not]; omega) pS (fun z => by have := oo 83 z; omega), o.2.1.trans pL, o.1, la (by omega) a1, lf (by omega) a2, lf (by omega) a3, lf (by omega) a4, (o.2.2 50 (fun z => by have := oo 50 z; omega)).trans t2, ?_⟩
    rcases im with ⟨i1, V, i2⟩ | ⟨i1, i2, i3, i4⟩
    · exact .inl ⟨i1, V, cc i2⟩
    · exact .inr ⟨i1, cc i2, i3, la (by omega) i4⟩
  -- what the reference makes of it
  have after : ∀ {h1 : mH} {g' : gT} {W2 : WD} {r' : Nat}, IM h1 m W I l r B U g.2.2.2.2.1 g.2.2.2.2.2 → SH h1 → h1.1.length = 84 → IG h1 g' W2 I 0 r' ll B A1 B1 C1 → g'.2.2.2.2.2 = g.2.2.2.2.2 → (∀ m' W' v, CTm (ctS B l W) W m m' W' v → (∀ i, i < 1264 → W' i = W2 i) ∧ m' 13 = g'.2.2.2.2.1 ∧ m' 6 = nI r' ∧ PR W' r' ll A1 B1 C1 U) → ∃ h2 m' W' v, ev O (d + 39) 189 0 [.ref 66, mJ, mJ] [] h1 = some (.inl (some (.int (v))), h2) ∧ IP h2 g' m' W' I 0 r' ll B A1 B1 C1 U ∧ CTm (ctS B l W) W m m' W' v ∧ h2.1[83]? = h1.1[83]? ∧ h2.2 = h1.2 := by
    intro h1 g' W2 r' M1 S1 len G1 hi q
    obtain ⟨F, n2⟩ := M1.2.2.2.1
    obtain ⟨h2, m', W', F', v, b1, b2, b3, b4, b5, b6, b7⟩ := Mcity_ev O (d + 28) XM M1.1 M1.2.1.2.2.1 t3 M1.2.2.2.2.2 R n2
    obtain ⟨q1, q2, q3, q4⟩ := q m' W' v b7
    have G2 : IG h1 g' W' I 0 r' ll B A1 B1 C1 := by
      obtain ⟨x1, ⟨x2, x3, x4⟩, ⟨x5, x6⟩, x7⟩ := G1
      exact ⟨x1, ⟨CA_c x2 x3 (fun i hi => q1 i (by omega)), rng_c x3 (fun i hi => q1 i (by omega)), x4⟩, ⟨LA_c x5 (q1 4 (by omega)) (fun i h1 h2 => q1 i h2), x6⟩, x7⟩
    have om : ∀ b, CMc b → mow b := fun b hb => by unfold CMc at hb; unfold mow; omega
    have far : ∀ b, b ≠ 66 → b ≠ 67 → b ≠ 69 → h2.1[b]? = h1.1[b]? := fun b x y z => b4.2.2 b (fun w => by unfold CMc at w; omega)
    exact ⟨h2, m', W', v, b1, act_M G2 S1 len b4 om ⟨b2, ⟨b6.trans (M1.2.1.1.trans hi.symm), q3, b5, q2⟩, (far 68 (by decide) (by decide) (by decide)).trans M1.2.2.1, ⟨F', b3⟩, (far 70 (by decide) (by decide) (by decide)).trans M1.2.2.2.2.1, (far 71 (by decide) (by decide) (by decide)).trans M1.2.2.2.2.2⟩ ⟨rfl, rfl⟩ q4, b7, far 83 (by decide) (by decide) (by decide), b4.1⟩
  have prW : ∀ {W' : WD}, (∀ i, i < 1264 → W' i = W i) → PR W' r ll A1 B1 C1 U := fun q => PR_W pR (fun p hp => ⟨q _ (by omega), q _ (by omega), q _ (by omega)⟩)
  cases e : ctS B l W with
  | inl f =>
    rw [e] at gq after
    obtain ⟨h1, eg, b0, b1, b2, b3, b4, o⟩ := gq
    obtain ⟨M1, S1, len, n1, la1, lf1, lf2, lf3, t5, im1⟩ := mid o
    have G1 : IG ((h1.1, h1.2 + 1) : mH) (g.1, g.2.1, g.2.2.1, g.2.2.2.1, nI f, g.2.2.2.2.2) W I 0 r ll B A1 B1 C1 := ⟨⟨b0, g2⟩, ⟨b2, R, b3⟩, ⟨la1, lf1, lf2, lf3⟩, ⟨b1, t5, by omega⟩, b4, im1⟩
    obtain ⟨h2, m', W', v, x1, x2, x3, x4, x5⟩ := after (h1 := ((h1.1, h1.2 + 1) : mH)) M1 S1 len G1 rfl (fun m' W' v c => ⟨c.2.2.2, c.2.1, c.2.2.1.trans pM.2.1.2.1, prW c.2.2.2⟩)
    exact fin_ex (t := 1) (.inl rfl) M1.1.isc (Lcity_e0 O (d + 38) (IP_K0 P) eg) x1 x2 x3.1 x5 n1
  | inr V =>
    rw [e] at gq after
    rcases gq with ⟨c10, h1, eg, b0, b1, b2, b3, b4, o⟩ | ⟨c10, h1, eg, b0, b1, b2, b3, b4, o⟩
    · obtain ⟨M1, S1, len, n1, la1, lf1, lf2, lf3, t5, im1⟩ := mid o
      have G1 : IG ((h1.1, h1.2 + 1) : mH) (g.1, g.2.1, g.2.2.1, g.2.2.2.1, -1, g.2.2.2.2.2) W I 0 r ll B A1 B1 C1 := ⟨⟨b0, g2⟩, ⟨b2, R, b3⟩, ⟨la1, lf1, lf2, lf3⟩, ⟨b1, t5, by omega⟩, b4, im1⟩
      obtain ⟨h2, m', W', v, x1, x2, x3, x4, x5⟩ := after (h1 := ((h1.1, h1.2 + 1) : mH)) M1 S1 len G1 rfl (fun m' W' v c => by
        rcases c with ⟨y0, ⟨-, y1, y2, y3⟩ | ⟨y1, -⟩⟩
        · exact ⟨y3, y0, y2.trans pM.2.1.2.1, prW y3⟩
        · exact absurd c10 y1)
      have m0 : m' 0 = nI 2 := by
        rcases x3 with ⟨-, ⟨-, y1, -⟩ | ⟨y1, -⟩⟩
        · exact y1
        · exact absurd c10 y1
      exact fin_ex (t := 2) (.inr rfl) M1.1.isc (Lcity_e3 O (d + 38) (IP_K0 P) eg) x1 x2 m0 x5 n1
    · have RV := ctS_ok R e
      have b3' := R.1.2.2.2.2.1
      have bt : bd 0 10 (W 3 + 1) := by
        unfold bd at b3' ⊢
        have e1 : (1 : Int32).toInt = 1 := by decide
        have ne : (W 3).toInt ≠ 10 := fun z => c10 (Int32.toInt_inj.mp (by rw [z]; decide))
        rw [fb_addI (by omega) (by omega), e1]
        omega
      have RW := rng_num RV (i := 3) (.inl ⟨rfl, bt⟩)
      have hi : ∀ i, (i = 4 ∨ 427 ≤ i) → upd V 3 (W 3 + 1) i = W i := fun i hi => by rw [pk_un (by omega)]; exact ctS_hi R e (by omega)
      obtain ⟨M1, S1, len, n1, la1, lf1, lf2, lf3, t5, im1⟩ := mid o
      obtain ⟨f, e83⟩ := S1.2.2.2.2.2.2
      have e1 := Lcity_v O (d + 38) (IP_K0 P) eg e83
      have g2' : gok (g.2.1, g.1, g.2.2.1, g.2.2.2.1, -1, g.2.2.2.2.2) := by
        unfold gok at g2 ⊢
        exact ⟨g2.1.elim (fun z => .inr ⟨z.2, z.1⟩) (fun z => .inl ⟨z.2, z.1⟩), g2.2⟩
      have G1 : IG h1 (g.2.1, g.1, g.2.2.1, g.2.2.2.1, -1, g.2.2.2.2.2) (upd V 3 (W 3 + 1)) I 0 0 ll B A1 B1 C1 := ⟨⟨b0, g2'⟩, ⟨b2, RW, b3⟩, ⟨LA_c la1 (hi 4 (by omega)) (fun i h1 h2 => hi i (by omega)), lf1, lf2, lf3⟩, ⟨b1, t5, by omega⟩, b4, im1⟩
      let h1' : mH := (h1.1.set 83 (aL 1 (vp_updL f 0 (W 3 + 1).toInt64)), h1.2)
      have o3 : out (fun b => b = 83) h1 h1' := out.st h1 _ rfl
      obtain ⟨h2, m', W', v, x1, x2, x3, x4, x5⟩ := after (h1 := h1') (IM_out M1 o3 (fun b hb => by unfold mow; omega)) (set83 S1 _) (o3.2.1.trans len) (IG_out G1 o3 (fun b hb => by unfold gow; omega)) rfl (fun m' W' v c => by
        rcases c with ⟨y0, ⟨y1, -⟩ | ⟨-, y1, y2, y3, y4⟩⟩
        · exact absurd y1 c10
        · exact ⟨fun i hi => by rw [y3], y0, y2, PR_0 _ hll _ _ _ _⟩)
      rcases x3 with ⟨-, ⟨y1, -⟩ | ⟨-, y1, y2, y3, y4⟩⟩
      · exact absurd y1 c10
      · refine ⟨0, _, v, h2, .inl rfl, e1, (IM_out M1 o3 (fun b hb => by unfold mow; omega)).1.isc, x1, ⟨m', W', x2.2.1.1, y1⟩, fun _ => ⟨_, x4.trans (hget e83), ?_⟩, ⟨_, _, _, _, _, _, _, _, _, _, _, _, x2⟩, ?_⟩
        · rw [y4]; exact if_pos rfl
        · rw [x5]
          show h1.2 ≤ h.2 + 1
          omega
theorem X_shame (O : mO) (d : Nat) (XC : LTX O) (XM : MTL O) (P : IP h g m W I l r ll B A1 B1 C1 U) : XP (ev O (d + 39) 265 0 [.ref 0, .ref 83, mJ] [] h) (fun h1 => ev O (d + 39) 190 0 [.ref 66, mJ, mJ] [] h1) h := by
  obtain ⟨pG, pM, pR, pS, pL⟩ := P
  have P : IP h g m W I l r ll B A1 B1 C1 U := ⟨pG, pM, pR, pS, pL⟩
  obtain ⟨⟨g1, g2⟩, ⟨c1, R, V0, c3⟩, ⟨a1, a2, a3, a4⟩, ⟨⟨p, t, w, t1⟩, t2, t3⟩, p1, im⟩ := pG
  have k := gok_lt g2
  have LD : LF h g.2.2.2.1 := by
    rcases k.2.2.2.2.2.2.2.2.1 with z | z
    · rw [z]; exact a2
    · rw [z]; exact a3
  have gq := Gshame_ev O (d + 15) XC g1 g2.2 t1 t3 t2 LD
  have oo : ∀ b, SGc g.2.2.2.1 b → b = 0 ∨ b = 49 ∨ (g.2.2.2.1 ≤ b ∧ b ≤ g.2.2.2.1 + 4) := fun b hb => by unfold SGc LB at hb; exact hb
  have mid : ∀ {h1 : mH}, out (SGc g.2.2.2.1) h h1 → LF h1 g.2.2.2.1 → IM h1 m W I l r B U g.2.2.2.2.1 g.2.2.2.2.2 ∧ SH h1 ∧ h1.1.length = 84 ∧ h1.2 = h.2 ∧ LA h1 g.2.2.1 W ∧ LF h1 28 ∧ LF h1 35 ∧ LF h1 42 ∧ h1.1[50]? = some (aB 400 B) ∧ ((g.2.2.2.2.2 = 0 ∧ ∃ V, CA h1 19 V) ∨ (g.2.2.2.2.2 = 1 ∧ CA h1 19 I ∧ rng I ∧ LA h1 42 I)) ∧ CA h1 g.1 W ∧ CA h1 g.2.1 V0 ∧ PC h1 r ll A1 B1 C1 := by
    intro h1 o LN
    have lf : ∀ a, (a = 28 ∨ a = 35 ∨ a = 42) → LF h a → LF h1 a := fun a ha L => by
      by_cases z : a = g.2.2.2.1
      · rw [z]; exact LN
      · exact LF_out L o (fun b hb y => by have := oo b hb; unfold LB at y; omega)
    have la : ∀ {a : Nat} {V : WD}, (a = g.2.2.1 ∨ a = 42) → LA h a V → LA h1 a V := fun ha L => LA_out L o (fun b hb z => by have := oo b hb; unfold LB at z; omega)
    have cc : ∀ {a : Nat} {V : WD}, (1 ≤ a ∧ a ≤ 19) → CA h a V → CA h1 a V := fun ha H => H.out o (fun b hb => by have := oo b hb; omega)
    refine ⟨IM_out pM o (fun b hb => by have := oo b hb; unfold mow; omega), SH_out o (fun b hb => by have := oo b hb; unfold scb; rw [decide_eq_false_iff_not]; omega) pS (fun z => by have := oo 83 z; omega), o.2.1.trans pL, o.1, la (by omega) a1, lf 28 (by omega) a2, lf 35 (by omega) a3, lf 42 (by omega) a4, (o.2.2 50 (fun z => by have := oo 50 z; omega)).trans t2, ?_, cc (by omega) c1, cc (by omega) c3, PC_o p1 o (fun b hb z => by have := oo b hb; unfold PS at z; omega)⟩
    rcases im with ⟨i1, V, i2⟩ | ⟨i1, i2, i3, i4⟩
    · exact .inl ⟨i1, V, cc (by omega) i2⟩
    · exact .inr ⟨i1, cc (by omega) i2, i3, la (by omega) i4⟩
  have after : ∀ {h1 : mH} {g' : gT}, IM h1 m W I l r B U g.2.2.2.2.1 g.2.2.2.2.2 → SH h1 → h1.1.length = 84 → g'.2.2.2.2.2 = g.2.2.2.2.2 → (∀ m' W' v, STm (txS B l) W m' W' v → IG h1 g' W' I 0 r ll B A1 B1 C1 ∧ m' 13 = g'.2.2.2.2.1 ∧ PR W' r ll A1 B1 C1 U) → ∃ h2 m' W' v, ev O (d + 39) 190 0 [.ref 66, mJ, mJ] [] h1 = some (.inl (some (.int (v))), h2) ∧ IP h2 g' m' W' I 0 r ll B A1 B1 C1 U ∧ STm (txS B l) W m' W' v ∧ h2.1[83]? = h1.1[83]? ∧ h2.2 = h1.2 := by
    intro h1 g' M1 S1 len hi q
    obtain ⟨F, n2⟩ := M1.2.2.2.1
    obtain ⟨h2, m', W', v, b1, b2, b4, b5, b6, b8, b7⟩ := Mshame_ev O (d + 7) XM M1.1 M1.2.1.2.2.1 t3 M1.2.2.2.2.2
    obtain ⟨q1, q2, q4⟩ := q m' W' v b7
    have om : ∀ b, SMc b → mow b := fun b hb => by unfold SMc at hb; unfold mow; omega
    have far : ∀ b, b ≠ 66 → b ≠ 67 → h2.1[b]? = h1.1[b]? := fun b x y => b4.2.2 b (fun w => by unfold SMc at w; omega)
    exact ⟨h2, m', W', v, b1, act_M q1 S1 len b4 om ⟨b2, ⟨b6.trans (M1.2.1.1.trans hi.symm), b8.trans M1.2.1.2.1, b5, q2⟩, (far 68 (by decide) (by decide)).trans M1.2.2.1, ⟨F, (far 69 (by decide) (by decide)).trans n2⟩, (far 70 (by decide) (by decide)).trans M1.2.2.2.2.1, (far 71 (by decide) (by decide)).trans M1.2.2.2.2.2⟩ ⟨rfl, rfl⟩ q4, b7, far 83 (by decide) (by decide), b4.1⟩
  cases e : txS B l with
  | inl f =>
    rw [e] at gq after
    obtain ⟨h1, eg, b0, b1, b2, o⟩ := gq
    obtain ⟨M1, S1, len, n1, la1, lf1, lf2, lf3, t5, im1, ca1, ca2, pc⟩ := mid o b2
    obtain ⟨h2, m', W', v, x1, x2, x3, x4, x5⟩ := after (h1 := ((h1.1, h1.2 + 1) : mH)) (g' := (g.1, g.2.1, g.2.2.1, g.2.2.2.1, nI f, g.2.2.2.2.2)) M1 S1 len rfl (fun m' W' v c => ⟨⟨⟨b0, g2⟩, ⟨CA_c ca1 R (fun i hi => c.2.2 i (by omega)), rng_c R (fun i hi => c.2.2 i (by omega)), V0, ca2⟩, ⟨LA_c la1 (c.2.2 4 (by omega)) (fun i h1 h2 => c.2.2 i h2), lf1, lf2, lf3⟩, ⟨b1, t5, by omega⟩, pc, im1⟩, c.2.1, PR_W pR (fun p hp => ⟨c.2.2 _ (by omega), c.2.2 _ (by omega), c.2.2 _ (by omega)⟩)⟩)
    exact fin_ex (t := 1) (.inl rfl) M1.1.isc (Lshame_e0 O (d + 38) (IP_K0 P) eg) x1 x2 x3.1 x5 n1
  | inr L =>
    rw [e] at gq after
    obtain ⟨h1, K, F, E, D, us, eg, b0, b1, b2, b3, o⟩ := gq
    obtain ⟨M1, S1, len, n1, la1, lf1, lf2, lf3, t5, im1, ca1, ca2, pc⟩ := mid o ⟨_, _, _, _, _, _, b2⟩
    obtain ⟨L12, Lk⟩ := txS_ok e
    have Lt := txS_tot e
    obtain ⟨f, e83⟩ := S1.2.2.2.2.2.2
    have e1 := Lshame_v O (d + 38) (IP_K0 P) eg e83
    have g2' : gok (g.1, g.2.1, g.2.2.2.1, g.2.2.1, -1, g.2.2.2.2.2) := by
      unfold gok at g2 ⊢
      exact ⟨g2.1, g2.2.elim (fun z => .inr ⟨z.2, z.1⟩) (fun z => .inl ⟨z.2, z.1⟩)⟩
    let h1' : mH := (h1.1.set 83 (aL 1 (vp_updL f 0 (nI L.length).toInt64)), h1.2)
    have o3 : out (fun b => b = 83) h1 h1' := out.st h1 _ rfl
    obtain ⟨h2, m', W', v, x1, x2, x3, x4, x5⟩ := after (h1 := h1') (g' := (g.1, g.2.1, g.2.2.2.1, g.2.2.1, -1, g.2.2.2.2.2)) (IM_out M1 o3 (fun b hb => by unfold mow; omega)) (set83 S1 _) (o3.2.1.trans len) rfl (fun m' W' v c => by
      obtain ⟨y0, y1, y2, y3, y4, y5, VV, y6, y7⟩ := c
      have lo : ∀ i, i < 427 → i ≠ 4 → W' i = W i := y5
      have wq : ∀ i, i < 427 → ∃ W2 : WD, (∀ j, j < 427 → j ≠ 4 → W2 j = W j) := fun i hi => ⟨W', y5⟩
      have ca : CA h1 g.1 W' := by
        have e4 : ∀ i, i < 427 → upd W 4 1 i = W' i := fun i hi => by
          by_cases z : i = 4
          · subst z; rw [pk_us, y3]
          · rw [pk_un z, y5 i hi z]
        obtain ⟨d1, d2, d3, d4⟩ := ca1
        have w0 : wN W' = wN W := by unfold wN; rw [y5 0 (by omega) (by omega)]
        have w1 : gN W' = gN W := by unfold gN; rw [y5 1 (by omega) (by omega)]
        have w2 : kN W' = kN W := by unfold kN; rw [y5 2 (by omega) (by omega)]
        have wp : pN W' = pN W := by unfold pN; rw [w0, w1]
        have k12 := kN_le R
        refine ⟨?_, fun k hk => ?_, ?_, ?_⟩
        · rw [d1]
          refine congrArg some (oC_congr fun k hk => ?_)
          have hk' : k = 0 ∨ k = 1 ∨ k = 2 ∨ k = 3 ∨ k = 4 ∨ k = 5 ∨ k = 12 ∨ k = 14 ∨ k = 16 ∨ k = 17 := by omega
          rcases hk' with rfl | rfl | rfl | rfl | rfl | rfl | rfl | rfl | rfl | rfl
          · show nI (wN W) = nI (wN W'); rw [w0]
          · show nI (gN W) = nI (gN W'); rw [w1]
          · show nI (pN W) = nI (pN W'); rw [wp]
          · show allI (wN W) (gN W) = allI (wN W') (gN W'); rw [w0, w1]
          · show lEd (wN W) (gN W) = lEd (wN W') (gN W'); rw [w0, w1]
          · show rEd (wN W) (gN W) = rEd (wN W') (gN W'); rw [w0, w1]
          · exact (y5 2 (by omega) (by omega)).symm
          · exact (y5 5 (by omega) (by omega)).symm
          · exact (y5 6 (by omega) (by omega)).symm
          · exact (y5 3 (by omega) (by omega)).symm
        · obtain ⟨f, z1, z2⟩ := d2 k hk
          exact ⟨f, z1, fun p hp => by rw [z2 p hp, y5 _ (by omega) (by omega)]⟩
        · obtain ⟨f, z1, z2⟩ := d3
          exact ⟨f, z1, fun i hi => by rw [w2] at hi; rw [z2 i hi, y5 _ (by omega) (by omega)]⟩
        · obtain ⟨f, z1, z2⟩ := d4
          exact ⟨f, z1, fun i hi => by rw [z2 i hi, y5 _ (by omega) (by omega)]⟩
      have rn : rng W' := by
        have w0 : wN W' = wN W := by unfold wN; rw [y5 0 (by omega) (by omega)]
        have w1 : gN W' = gN W := by unfold gN; rw [y5 1 (by omega) (by omega)]
        have w2 : kN W' = kN W := by unfold kN; rw [y5 2 (by omega) (by omega)]
        have w5 : sN W' = sN W := by unfold sN; rw [y5 5 (by omega) (by omega)]
        have wp : pN W' = pN W := by unfold pN; rw [w0, w1]
        have k12 := kN_le R
        obtain ⟨⟨r1, r2, r3, r4, r5, r6⟩, r7, r8, r9⟩ := R
        refine ⟨⟨?_, ?_, ?_, ?_, ?_, ?_⟩, fun p hp => ?_, fun k hk => ?_, fun i hi => ?_⟩
        · rw [w0, y5 0 (by omega) (by omega)]; exact r1
        · rw [w1, y5 1 (by omega) (by omega)]; exact r2
        · rw [w2, y5 2 (by omega) (by omega)]; exact r3
        · rw [w5, y5 5 (by omega) (by omega)]; exact r4
        · rw [y5 3 (by omega) (by omega)]; exact r5
        · rw [y5 6 (by omega) (by omega)]; exact r6
        · rw [y5 _ (by omega) (by omega), y5 _ (by omega) (by omega), y5 _ (by omega) (by omega), y5 _ (by omega) (by omega), y5 _ (by omega) (by omega), y5 _ (by omega) (by omega)]; exact r7 p hp
        · rw [w2] at hk
          rw [wp, y5 _ (by omega) (by omega), y5 _ (by omega) (by omega), y5 _ (by omega) (by omega), y5 _ (by omega) (by omega), y5 _ (by omega) (by omega)]; exact r8 k hk
        · rw [y5 _ (by omega) (by omega)]; exact r9 i hi
      have lan : LA h1 g.2.2.2.1 W' := .inl ⟨y3, _, _, text_ok Lk L12 (by omega) y4 y6 y7, text_LC Lk L12 (by omega) y6 y7 b2 b3⟩
      have G1 : IG h1 (g.1, g.2.1, g.2.2.2.1, g.2.2.1, -1, g.2.2.2.2.2) W' I 0 r ll B A1 B1 C1 := ⟨⟨b0, g2'⟩, ⟨ca, rn, V0, ca2⟩, ⟨lan, lf1, lf2, lf3⟩, ⟨b1, t5, by omega⟩, pc, im1⟩
      exact ⟨IG_out G1 o3 (fun b hb => by unfold gow; omega), y1, PR_W pR (fun p hp => ⟨y5 _ (by omega) (by omega), y5 _ (by omega) (by omega), y5 _ (by omega) (by omega)⟩)⟩)
    obtain ⟨y0, y1, y2, -⟩ := x3
    refine ⟨0, _, v, h2, .inl rfl, e1, (IM_out M1 o3 (fun b hb => by unfold mow; omega)).1.isc, x1, ⟨m', W', x2.2.1.1, y0⟩, fun _ => ⟨_, x4.trans (hget e83), ?_⟩, ⟨_, _, _, _, _, _, _, _, _, _, _, _, x2⟩, ?_⟩
    · rw [y2]; exact if_pos rfl
    · rw [x5]
      show h1.2 ≤ h.2 + 1
      omega
end ActsZ
