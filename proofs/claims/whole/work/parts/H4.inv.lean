/-! What holds between two calls: the class's half IG, the reference's half IM, both IP -/
section Cong
variable {h : mH} {a : Nat} {V W : WD}
theorem CA_c (H : CA h a W) (R : rng W) (e : ∀ i, i < 427 → V i = W i) : CA h a V := by
  have k12 := kN_le R
  have w0 : wN V = wN W := by unfold wN; rw [e 0 (by omega)]
  have w1 : gN V = gN W := by unfold gN; rw [e 1 (by omega)]
  have w2 : kN V = kN W := by unfold kN; rw [e 2 (by omega)]
  have wp : pN V = pN W := by unfold pN; rw [w0, w1]
  refine ⟨?_, fun k hk => ?_, ?_, ?_⟩
  · rw [H.1]
    refine congrArg some (oC_congr fun k hk => ?_)
    have hk' : k = 0 ∨ k = 1 ∨ k = 2 ∨ k = 3 ∨ k = 4 ∨ k = 5 ∨ k = 12 ∨ k = 14 ∨ k = 16 ∨ k = 17 := by omega
    rcases hk' with rfl | rfl | rfl | rfl | rfl | rfl | rfl | rfl | rfl | rfl
    · show nI (wN W) = nI (wN V); rw [w0]
    · show nI (gN W) = nI (gN V); rw [w1]
    · show nI (pN W) = nI (pN V); rw [wp]
    · show allI (wN W) (gN W) = allI (wN V) (gN V); rw [w0, w1]
    · show lEd (wN W) (gN W) = lEd (wN V) (gN V); rw [w0, w1]
    · show rEd (wN W) (gN W) = rEd (wN V) (gN V); rw [w0, w1]
    · exact (e 2 (by omega)).symm
    · exact (e 5 (by omega)).symm
    · exact (e 6 (by omega)).symm
    · exact (e 3 (by omega)).symm
  · obtain ⟨f, a1, a2⟩ := H.2.1 k hk
    exact ⟨f, a1, fun p hp => by rw [a2 p hp, e _ (by omega)]⟩
  · obtain ⟨f, a1, a2⟩ := H.2.2.1
    exact ⟨f, a1, fun i hi => by rw [w2] at hi; rw [a2 i hi, e _ (by omega)]⟩
  · obtain ⟨f, a1, a2⟩ := H.2.2.2
    exact ⟨f, a1, fun i hi => by rw [a2 i hi, e _ (by omega)]⟩
theorem rng_c (R : rng W) (e : ∀ i, i < 427 → V i = W i) : rng V := by
  have k12 := kN_le R
  have w0 : wN V = wN W := by unfold wN; rw [e 0 (by omega)]
  have w1 : gN V = gN W := by unfold gN; rw [e 1 (by omega)]
  have w2 : kN V = kN W := by unfold kN; rw [e 2 (by omega)]
  have w5 : sN V = sN W := by unfold sN; rw [e 5 (by omega)]
  have wp : pN V = pN W := by unfold pN; rw [w0, w1]
  obtain ⟨⟨r1, r2, r3, r4, r5, r6⟩, r7, r8, r9⟩ := R
  refine ⟨⟨?_, ?_, ?_, ?_, ?_, ?_⟩, fun p hp => ?_, fun k hk => ?_, fun i hi => ?_⟩
  · rw [w0, e 0 (by omega)]; exact r1
  · rw [w1, e 1 (by omega)]; exact r2
  · rw [w2, e 2 (by omega)]; exact r3
  · rw [w5, e 5 (by omega)]; exact r4
  · rw [e 3 (by omega)]; exact r5
  · rw [e 6 (by omega)]; exact r6
  · rw [e _ (by omega), e _ (by omega), e _ (by omega), e _ (by omega), e _ (by omega), e _ (by omega)]; exact r7 p hp
  · rw [w2] at hk
    rw [wp, e _ (by omega), e _ (by omega), e _ (by omega), e _ (by omega), e _ (by omega)]; exact r8 k hk
  · rw [e _ (by omega)]; exact r9 i hi
theorem ty_c {b : Nat} (m : Nat) (h : ∀ j, j < m → kk V (b + j) = kk W (b + j)) : tyR V b m = tyR W b m := by
  unfold tyR
  refine lp_congr (fun i o hi => ?_) _
  rw [h i hi]
theorem TXT_c {n : Nat} {eb : Nat → Nat} (X : TXT W n eb) (e : ∀ i, 427 ≤ i → i < 1264 → V i = W i) : TXT V n eb := by
  obtain ⟨x1, x2, x3, x4, x5⟩ := X
  refine ⟨x1, by rw [e 427 (by omega) (by omega)]; exact x2, x3, x4, fun i hi => ?_⟩
  obtain ⟨y1, y2, y3, y4, y5, y6, y7⟩ := x5 i hi
  have b4 := x4 (i + 1) (by omega)
  have kq : ∀ j, j < 400 → kk V j = kk W j := fun j hj => by unfold kk; rw [e _ (by omega) (by omega)]
  have tq : ∀ m, m ≤ eb (i + 1) - eb i → tyR V (eb i) m = tyR W (eb i) m := fun m hm => ty_c m (fun j hj => kq _ (by omega))
  refine ⟨y1, by rw [e _ (by omega) (by omega)]; exact y2, by rw [e _ (by omega) (by omega)]; exact y3, ?_, fun j h1 h2 => ?_, fun m hm => ?_, fun hlt => ?_⟩
  · unfold hdK at *
    rw [e _ (by omega) (by omega)]; exact y4
  · obtain ⟨z1, z2, z3⟩ := y5 j h1 h2
    refine ⟨by rw [kq j (by omega)]; exact z1, by rw [kq j (by omega), e _ (by omega) (by omega)]; exact z2, ?_⟩
    unfold xx at *
    rw [e _ (by omega) (by omega)]; exact z3
  · rw [tq m (by omega)]; exact y6 m hm
  · rw [tq _ (Nat.le_refl _)]; exact y7 hlt
theorem LA_c (L : LA h a W) (e4 : V 4 = W 4) (e : ∀ i, 427 ≤ i → i < 1264 → V i = W i) : LA h a V := by
  rcases L with ⟨w, n, eb, X, us, K, F, E, D, l0, l1, l2, l3, l4, l5, l6⟩ | ⟨w, us, l0⟩
  · have b4 := X.2.2.2.1 n (Nat.le_refl _)
    have n12 := X.1
    refine .inl ⟨by rw [e4]; exact w, n, eb, TXT_c X e, us, K, F, E, D, l0, l1, l2, l3, l4, fun i hi => ?_, fun j hj => ?_⟩
    · rw [e _ (by omega) (by omega)]; exact l5 i hi
    · rw [l6 j hj]
      unfold kk xx
      rw [e _ (by omega) (by omega), e _ (by omega) (by omega)]
  · exact .inr ⟨by rw [e4]; exact w, us, l0⟩
end Cong
def gok (g : gT) : Prop := ((g.1 = 1 ∧ g.2.1 = 10) ∨ (g.1 = 10 ∧ g.2.1 = 1)) ∧ ((g.2.2.1 = 28 ∧ g.2.2.2.1 = 35) ∨ (g.2.2.1 = 35 ∧ g.2.2.2.1 = 28))
/-- cells of the class that last -/
def gow (b : Nat) : Prop := b ≤ 32 ∨ (35 ≤ b ∧ b ≤ 39) ∨ (42 ≤ b ∧ b ≤ 46) ∨ (49 ≤ b ∧ b ≤ 54)
def mow (b : Nat) : Prop := 66 ≤ b ∧ b ≤ 71
def IG (h : mH) (g : gT) (W I : WD) (l r ll : Nat) (B A1 B1 C1 : Nat → Int32) : Prop :=
  (h.1[0]? = some (oG g) ∧ gok g) ∧ (CA h g.1 W ∧ rng W ∧ ∃ V, CA h g.2.1 V) ∧ (LA h g.2.2.1 W ∧ LF h 28 ∧ LF h 35 ∧ LF h 42) ∧ ((∃ p t w, h.1[49]? = some (oT (nI l) p t w)) ∧ h.1[50]? = some (aB 400 B) ∧ l ≤ 400) ∧ PC h r ll A1 B1 C1 ∧ ((g.2.2.2.2.2 = 0 ∧ ∃ V, CA h 19 V) ∨ (g.2.2.2.2.2 = 1 ∧ CA h 19 I ∧ rng I ∧ LA h 42 I))
def IM (h : mH) (m : Nat → Int32) (W I : WD) (l r : Nat) (B U : Nat → Int32) (fw hi : Int32) : Prop :=
  MS h m W ∧ (m 4 = hi ∧ m 6 = nI r ∧ m 8 = nI l ∧ m 13 = fw) ∧ h.1[68]? = some (aI 1264 I) ∧ (∃ F, h.1[69]? = some (aI 1264 F)) ∧ h.1[70]? = some (aI 2160 U) ∧ h.1[71]? = some (aB 400 B)
def IP (h : mH) (g : gT) (m : Nat → Int32) (W I : WD) (l r ll : Nat) (B A1 B1 C1 U : Nat → Int32) : Prop := IG h g W I l r ll B A1 B1 C1 ∧ IM h m W I l r B U g.2.2.2.2.1 g.2.2.2.2.2 ∧ PR W r ll A1 B1 C1 U ∧ SH h ∧ h.1.length = 84
def INV (h : mH) : Prop := ∃ g m W I l r ll B A1 B1 C1 U, IP h g m W I l r ll B A1 B1 C1 U
section InvL
variable {h h' : mH} {g : gT} {m : Nat → Int32} {W I : WD} {l r ll : Nat} {B A1 B1 C1 U : Nat → Int32} {fw hi : Int32}
theorem gok_lt (k : gok g) : g.1 < 20 ∧ g.2.1 < 20 ∧ (g.1 + 9 ≤ g.2.1 ∨ g.2.1 + 9 ≤ g.1) ∧ 1 ≤ g.1 ∧ g.1 ≤ 10 ∧ 1 ≤ g.2.1 ∧ g.2.1 ≤ 10 ∧ (g.2.2.1 = 28 ∨ g.2.2.1 = 35) ∧ (g.2.2.2.1 = 28 ∨ g.2.2.2.1 = 35) ∧ g.2.2.1 ≠ g.2.2.2.1 := by unfold gok at k; omega
theorem IG_out (G : IG h g W I l r ll B A1 B1 C1) {A : Nat → Prop} (o : out A h h') (hA : ∀ b, A b → ¬ gow b) : IG h' g W I l r ll B A1 B1 C1 := by
  obtain ⟨⟨g1, g2⟩, ⟨c1, c2, V, c3⟩, ⟨a1, a2, a3, a4⟩, ⟨⟨p, t, w, t1⟩, t2, t3⟩, p1, im⟩ := G
  have k := gok_lt g2
  have q : ∀ b, gow b → h'.1[b]? = h.1[b]? := fun b hb => o.2.2 b (fun z => hA b z hb)
  have cc : ∀ {a : Nat} {V : WD}, (1 ≤ a ∧ a ≤ 19) → CA h a V → CA h' a V := fun ha H => H.out o (fun b hb => by have := hA b hb; unfold gow at this; omega)
  have ll' : ∀ {a : Nat}, (a = 28 ∨ a = 35 ∨ a = 42) → LF h a → LF h' a := fun ha H => LF_out H o (fun b hb z => by have := hA b hb; unfold gow at this; unfold LB at z; omega)
  have la : ∀ {a : Nat} {V : WD}, (a = 28 ∨ a = 35 ∨ a = 42) → LA h a V → LA h' a V := fun ha H => LA_out H o (fun b hb z => by have := hA b hb; unfold gow at this; unfold LB at z; omega)
  refine ⟨⟨(q 0 (by unfold gow; omega)).trans g1, g2⟩, ⟨cc (by omega) c1, c2, V, cc (by omega) c3⟩, ⟨la (by omega) a1, ll' (by omega) a2, ll' (by omega) a3, ll' (by omega) a4⟩, ⟨⟨p, t, w, (q 49 (by unfold gow; omega)).trans t1⟩, (q 50 (by unfold gow; omega)).trans t2, t3⟩, PC_o p1 o (fun b hb z => by have := hA b hb; unfold gow at this; unfold PS at z; omega), ?_⟩
  rcases im with ⟨i1, V, i2⟩ | ⟨i1, i2, i3, i4⟩
  · exact .inl ⟨i1, V, cc (by omega) i2⟩
  · exact .inr ⟨i1, cc (by omega) i2, i3, la (by omega) i4⟩
theorem IM_out (M : IM h m W I l r B U fw hi) {A : Nat → Prop} (o : out A h h') (hA : ∀ b, A b → ¬ mow b) : IM h' m W I l r B U fw hi := by
  obtain ⟨m1, m2, m3, ⟨F, m4⟩, m5, m6⟩ := M
  have q : ∀ b, mow b → h'.1[b]? = h.1[b]? := fun b hb => o.2.2 b (fun z => hA b z hb)
  exact ⟨m1.out o (fun z => hA 66 z (by unfold mow; omega)) (fun z => hA 67 z (by unfold mow; omega)), m2, (q 68 (by unfold mow; omega)).trans m3, ⟨F, (q 69 (by unfold mow; omega)).trans m4⟩, (q 70 (by unfold mow; omega)).trans m5, (q 71 (by unfold mow; omega)).trans m6⟩
theorem scr_g {b : Nat} (h : SCR b) : ¬ gow b := by unfold SCR scb at h; rw [decide_eq_true_eq] at h; unfold gow; omega
theorem scr_m {b : Nat} (h : SCR b) : ¬ mow b := by unfold SCR scb at h; rw [decide_eq_true_eq] at h; unfold mow; omega
theorem IP_sc (P : IP h g m W I l r ll B A1 B1 C1 U) (s : sc h h') : IP h' g m W I l r ll B A1 B1 C1 U := ⟨IG_out P.1 s.1 (fun b => scr_g), IM_out P.2.1 s.1 (fun b => scr_m), P.2.2.1, s.2 P.2.2.2.1, s.1.2.1.trans P.2.2.2.2⟩
theorem IP_t (P : IP h g m W I l r ll B A1 B1 C1 U) (t : Int32) : IP (tH h m t) g (upd m 0 t) W I l r ll B A1 B1 C1 U := by
  obtain ⟨p1, ⟨m1, m2, m3, ⟨F, m4⟩, m5, m6⟩, p3, p4, p5⟩ := P
  have o : out (fun b => b = 66) h (tH h m t) := out.st h _ rfl
  exact ⟨IG_out p1 o (fun b hb => by unfold gow; omega), ⟨m1.t t, m2, (hne (by decide)).trans m3, ⟨F, (hne (by decide)).trans m4⟩, (hne (by decide)).trans m5, (hne (by decide)).trans m6⟩, p3, SH_tH p4 m t, o.2.1.trans p5⟩
/-- throws are counted aside -/
theorem IP_n (P : IP h g m W I l r ll B A1 B1 C1 U) (k : Nat) : IP ((h.1, k) : mH) g m W I l r ll B A1 B1 C1 U := P
theorem IP_CG (P : IP h g m W I l r ll B A1 B1 C1 U) : CG h g W := ⟨P.1.1.1, P.1.2.1.1, (gok_lt P.1.1.2).1, P.1.2.1.2.1, P.2.2.2.1⟩
theorem IP_83 (P : IP h g m W I l r ll B A1 B1 C1 U) (f : Nat → Int64) : IP ((h.1.set 83 (aL 1 f), h.2) : mH) g m W I l r ll B A1 B1 C1 U := by
  have o : out (fun b => b = 83) h (h.1.set 83 (aL 1 f), h.2) := out.st h _ rfl
  have S := P.2.2.2.1
  refine ⟨IG_out P.1 o (fun b hb => by unfold gow; omega), IM_out P.2.1 o (fun b hb => by unfold mow; omega), P.2.2.1, ⟨fun b n q => ?_, ?_, ?_, ?_, ?_, ?_, ?_⟩, o.2.1.trans P.2.2.2.2⟩
  · obtain ⟨f, e⟩ := S.1 b n q
    exact ⟨f, (hne (tab_ne q).2.2.2.2.2.2.symm).trans e⟩
  · exact S.2.1.elim fun s e => ⟨s, (hne (by decide)).trans e⟩
  · exact S.2.2.1.elim fun x e => e.elim fun y e => e.elim fun z e => ⟨x, y, z, (hne (by decide)).trans e⟩
  · exact S.2.2.2.1.elim fun s e => ⟨s, (hne (by decide)).trans e⟩
  · exact S.2.2.2.2.1.elim fun s e => ⟨s, (hne (by decide)).trans e⟩
  · exact S.2.2.2.2.2.1.elim fun s e => ⟨s, (hne (by decide)).trans e⟩
  · exact S.2.2.2.2.2.2.elim fun s e => ⟨f, hget e⟩
/-- the class's world becomes another, its past too -/
theorem IG_w (G : IG h g W I l r ll B A1 B1 C1) {A : Nat → Prop} (o : out A h h') (hA : ∀ b, A b → CB g.1 b ∨ PS b ∨ ¬ gow b) {W' : WD} (H : CA h' g.1 W') (R : rng W') (e4 : W' 4 = W 4) (e : ∀ i, 427 ≤ i → i < 1264 → W' i = W i) {r' ll' : Nat} {A1' B1' C1' : Nat → Int32} (P : PC h' r' ll' A1' B1' C1') : IG h' g W' I l r' ll' B A1' B1' C1' := by
  obtain ⟨⟨g1, g2⟩, ⟨c1, c2, V, c3⟩, ⟨a1, a2, a3, a4⟩, ⟨⟨p, t, w, t1⟩, t2, t3⟩, p1, im⟩ := G
  have k := gok_lt g2
  have hA' : ∀ b, A b → (g.1 ≤ b ∧ b ≤ g.1 + 8) ∨ (51 ≤ b ∧ b ≤ 54) ∨ ¬ gow b := fun b hb => by have := hA b hb; unfold CB PS at this; exact this
  have q : ∀ b, gow b → ¬ (g.1 ≤ b ∧ b ≤ g.1 + 8) → ¬ (51 ≤ b ∧ b ≤ 54) → h'.1[b]? = h.1[b]? := fun b h1 h2 h3 => o.2.2 b (fun z => by rcases hA' b z with y | y | y; exact h2 y; exact h3 y; exact y h1)
  have cc : ∀ {a : Nat} {V : WD}, (a = g.2.1 ∨ a = 19) → CA h a V → CA h' a V := fun ha H => H.out o (fun b hb => by have := hA' b hb; unfold gow at this; omega)
  have ll2 : ∀ {a : Nat}, (a = 28 ∨ a = 35 ∨ a = 42) → LF h a → LF h' a := fun ha H => LF_out H o (fun b hb z => by have := hA' b hb; unfold gow at this; unfold LB at z; omega)
  have la : ∀ {a : Nat} {V : WD}, (a = 28 ∨ a = 35 ∨ a = 42) → LA h a V → LA h' a V := fun ha H => LA_out H o (fun b hb z => by have := hA' b hb; unfold gow at this; unfold LB at z; omega)
  refine ⟨⟨(q 0 (by unfold gow; omega) (by omega) (by omega)).trans g1, g2⟩, ⟨H, R, V, cc (by omega) c3⟩, ⟨LA_c (la (by omega) a1) e4 e, ll2 (by omega) a2, ll2 (by omega) a3, ll2 (by omega) a4⟩, ⟨⟨p, t, w, (q 49 (by unfold gow; omega) (by omega) (by omega)).trans t1⟩, (q 50 (by unfold gow; omega) (by omega) (by omega)).trans t2, t3⟩, P, ?_⟩
  rcases im with ⟨i1, V, i2⟩ | ⟨i1, i2, i3, i4⟩
  · exact .inl ⟨i1, V, cc (by omega) i2⟩
  · exact .inr ⟨i1, cc (by omega) i2, i3, la (by omega) i4⟩
end InvL
