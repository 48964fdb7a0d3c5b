/-! Tape, undo, image, texts: class and reference do alike -/
section ActsY
variable {h : mH} {g : gT} {m : Nat → Int32} {W I : WD} {l r ll : Nat} {B A1 B1 C1 U : Nat → Int32}
/-- the class's tape alone changes -/
theorem IG_tape (G : IG h g W I l r ll B A1 B1 C1) {h' : mH} {A : Nat → Prop} (o : out A h h') (hA : ∀ b, A b → b = 49 ∨ b = 50 ∨ ¬ gow b) {l' : Nat} {B' : Nat → Int32} (e49 : ∃ p t w, h'.1[49]? = some (oT (nI l') p t w)) (e50 : h'.1[50]? = some (aB 400 B')) (hl : l' ≤ 400) : IG h' g W I l' r ll B' A1 B1 C1 := by
  obtain ⟨⟨g1, g2⟩, ⟨c1, c2, V, c3⟩, ⟨a1, a2, a3, a4⟩, -, p1, im⟩ := G
  have k := gok_lt g2
  have q : ∀ b, gow b → b ≠ 49 → b ≠ 50 → h'.1[b]? = h.1[b]? := fun b h1 h2 h3 => o.2.2 b (fun z => by rcases hA b z with y | y | y; exact h2 y; exact h3 y; exact y h1)
  have cc : ∀ {a : Nat} {V : WD}, (1 ≤ a ∧ a ≤ 19) → CA h a V → CA h' a V := fun ha H => H.out o (fun b hb => by have := hA b hb; unfold gow at this; omega)
  have ll2 : ∀ {a : Nat}, (a = 28 ∨ a = 35 ∨ a = 42) → LF h a → LF h' a := fun ha H => LF_out H o (fun b hb z => by have := hA b hb; unfold gow at this; unfold LB at z; omega)
  have la : ∀ {a : Nat} {V : WD}, (a = 28 ∨ a = 35 ∨ a = 42) → LA h a V → LA h' a V := fun ha H => LA_out H o (fun b hb z => by have := hA b hb; unfold gow at this; unfold LB at z; omega)
  refine ⟨⟨(q 0 (by unfold gow; omega) (by omega) (by omega)).trans g1, g2⟩, ⟨cc (by omega) c1, c2, V, cc (by omega) c3⟩, ⟨la (by omega) a1, ll2 (by omega) a2, ll2 (by omega) a3, ll2 (by omega) a4⟩, ⟨e49, e50, hl⟩, PC_o p1 o (fun b hb z => by have := hA b hb; unfold gow at this; unfold PS at z; omega), ?_⟩
  rcases im with ⟨i1, V, i2⟩ | ⟨i1, i2, i3, i4⟩
  · exact .inl ⟨i1, V, cc (by omega) i2⟩
  · exact .inr ⟨i1, cc (by omega) i2, i3, la (by omega) i4⟩
theorem X_feed (O : mO) (d : Nat) (P : IP h g m W I l r ll B A1 B1 C1 U) (x1 x2 x3 x4 x5 : Int32) : PPq (ev O (d + 39) 102 0 [.ref 0, .int x1, .int x2, .int x3, .int x4, .int x5] [] h) (fun h1 => ev O (d + 39) 165 0 [.ref 66, .int x1, .int x2, .int x3, .int x4, .int x5, mJ] [] h1) h := by
  obtain ⟨pG, pM, pR, pS, pL⟩ := P
  have P : IP h g m W I l r ll B A1 B1 C1 U := ⟨pG, pM, pR, pS, pL⟩
  obtain ⟨⟨p, t, w, e49⟩, e50, hl⟩ := pG.2.2.2.1
  have gq := Gfeed_ev O (d + 37) pG.1.1 e49 e50 hl x1 x2 x3 x4 x5
  by_cases c : l + 20 ≤ 400
  · rw [if_pos c] at gq
    let h1 := hF h (l + 20) p t w (fed B l x1 x2 x3 x4 x5)
    have o1 : out (fun b => b = 49 ∨ b = 50) h h1 := (out.st h _ (.inl rfl)).tr1 (out.st _ _ (.inr rfl))
    have G1 := IG_tape pG o1 (fun b hb => by omega) ⟨p, t, w, F49 e49⟩ (F50 e50) c
    have M1 := IM_out pM o1 (fun b hb => by unfold mow; omega)
    have S1 : SH h1 := SH_out o1 (fun b hb => by unfold scb; rw [decide_eq_false_iff_not]; omega) pS (by omega)
    have i66 := M1.1.isc
    obtain ⟨h2, m2, a1, a2, a3, a4, a5, a6⟩ := (Mfeed_ev O (d + 39) M1.1 M1.2.1.2.2.1 hl M1.2.2.2.2.2 (S1.at (by decide)) x1 x2 x3 x4 x5).1 c
    subst a6
    have q : ∀ b, b ≠ 66 → b ≠ 71 → b ≠ 72 → h2.1[b]? = h1.1[b]? := fun b h6 h7 h8 => a5.2.2 b (by omega)
    have S2 : SH h2 := by
      refine ⟨fun b n z => ?_, ?_, ?_, ?_, ?_, ?_, ?_⟩
      · by_cases y : b = 72
        · subst y
          have := tab_one _ z (72, 5) (by decide) rfl
          simp only at this
          subst this
          exact a4
        · obtain ⟨f, e⟩ := S1.1 b n z
          have t := (tab_ne z).1
          refine ⟨f, (q b (fun y => ?_) (fun y => ?_) y).trans e⟩
          · subst y; exact absurd t (by decide)
          · subst y; exact absurd t (by decide)
      · exact S1.2.1.elim fun s e => ⟨s, (q 55 (by decide) (by decide) (by decide)).trans e⟩
      · exact S1.2.2.1.elim fun x e => e.elim fun y e => e.elim fun z e => ⟨x, y, z, (q 56 (by decide) (by decide) (by decide)).trans e⟩
      · exact S1.2.2.2.1.elim fun s e => ⟨s, (q 63 (by decide) (by decide) (by decide)).trans e⟩
      · exact S1.2.2.2.2.1.elim fun s e => ⟨s, (q 64 (by decide) (by decide) (by decide)).trans e⟩
      · exact S1.2.2.2.2.2.1.elim fun s e => ⟨s, (q 65 (by decide) (by decide) (by decide)).trans e⟩
      · exact S1.2.2.2.2.2.2.elim fun s e => ⟨s, (q 83 (by decide) (by decide) (by decide)).trans e⟩
    obtain ⟨-, ⟨m1, m2, m3, m4⟩, n1, ⟨F, n2⟩, n3, n4⟩ := M1
    have P2 : IP h2 g (upd (upd m 0 0) 8 (nI (l + 20))) W I (l + 20) r ll (fed B l x1 x2 x3 x4 x5) A1 B1 C1 U := ⟨IG_out G1 a5 (fun b hb => by unfold gow; omega), ⟨a2, ⟨m1, m2, pk_us, m4⟩, (q 68 (by decide) (by decide) (by decide)).trans n1, ⟨F, (q 69 (by decide) (by decide) (by decide)).trans n2⟩, (q 70 (by decide) (by decide) (by decide)).trans n3, a3⟩, pR, S2, a5.2.1.trans (o1.2.1.trans pL)⟩
    exact ⟨_, h1, h2, gq, i66, a1, ⟨_, _, _, _, _, _, _, _, _, _, _, _, P2⟩, by rw [a5.1, o1.1]; omega⟩
  · rw [if_neg c] at gq
    have mq := (Mfeed_ev O (d + 39) pM.1 pM.2.1.2.2.1 hl pM.2.2.2.2.2 (pS.at (by decide)) x1 x2 x3 x4 x5).2 c
    exact ⟨_, h, _, gq, pM.1.isc, mq, ⟨_, _, _, _, _, _, _, _, _, _, _, _, IP_t P 0⟩, Nat.le_succ _⟩
theorem X_end (O : mO) (d : Nat) (P : IP h g m W I l r ll B A1 B1 C1 U) (x1 : Int32) : PPq (ev O (d + 39) 103 0 [.ref 0, .int x1] [] h) (fun h1 => ev O (d + 39) 166 0 [.ref 66, .int x1] [] h1) h := by
  obtain ⟨pG, pM, pR, pS, pL⟩ := P
  have P : IP h g m W I l r ll B A1 B1 C1 U := ⟨pG, pM, pR, pS, pL⟩
  obtain ⟨⟨p, t, w, e49⟩, e50, hl⟩ := pG.2.2.2.1
  have gq := Gend_ev O (d + 39) pG.1.1 e49 x1
  by_cases c : 0 ≤ x1 ∧ x1 ≤ nI l
  · rw [if_pos c] at gq
    obtain ⟨k, hk, rfl⟩ := inB_n (n := l) (by omega) (inB_t.mpr c)
    let h1 : mH := (h.1.set 49 (oT (nI k) p t w), h.2)
    have o1 : out (fun b => b = 49) h h1 := out.st h _ rfl
    have G1 := IG_tape (l' := k) pG o1 (fun b hb => by omega) ⟨p, t, w, hget e49⟩ ((hne (by decide)).trans e50) (by omega)
    have M1 := IM_out pM o1 (fun b hb => by unfold mow; omega)
    have S1 : SH h1 := SH_out o1 (fun b hb => by unfold scb; rw [decide_eq_false_iff_not]; omega) pS (by omega)
    have mq := Mend_ev O (d + 39) M1.1 (nI k)
    rw [M1.2.1.2.2.1, if_pos c] at mq
    let h2 : mH := (h1.1.set 66 (oM (upd (upd m 0 0) 8 (nI k))), h1.2)
    have o2 : out mow h1 h2 := out.st h1 _ (by unfold mow; omega)
    obtain ⟨n0, ⟨m1, m2, m3, m4⟩, n1, ⟨F, n2⟩, n3, n4⟩ := M1
    have P2 : IP h2 g (upd (upd m 0 0) 8 (nI k)) W I k r ll B A1 B1 C1 U := act_M G1 S1 (o1.2.1.trans pL) o2 (fun b hb => hb) ⟨⟨hget n0.1, (hne (by decide)).trans n0.2⟩, ⟨m1, m2, pk_us, m4⟩, (hne (by decide)).trans n1, ⟨F, (hne (by decide)).trans n2⟩, (hne (by decide)).trans n3, (hne (by decide)).trans n4⟩ ⟨rfl, rfl⟩ pR
    exact ⟨_, h1, h2, gq, n0.isc, mq, ⟨_, _, _, _, _, _, _, _, _, _, _, _, P2⟩, Nat.le_succ _⟩
  · rw [if_neg c] at gq
    have mq := Mend_ev O (d + 39) pM.1 x1
    rw [pM.2.1.2.2.1, if_neg c] at mq
    exact ⟨_, h, _, gq, pM.1.isc, mq, ⟨_, _, _, _, _, _, _, _, _, _, _, _, IP_t P 0⟩, Nat.le_succ _⟩
theorem X_undo (O : mO) (d : Nat) (P : IP h g m W I l r ll B A1 B1 C1 U) : PPq (ev O (d + 39) 138 0 [.ref 0] [] h) (fun h1 => ev O (d + 39) 200 0 [.ref 66, mJ] [] h1) h := by
  obtain ⟨pG, pM, pR, pS, pL⟩ := P
  have P : IP h g m W I l r ll B A1 B1 C1 U := ⟨pG, pM, pR, pS, pL⟩
  obtain ⟨hr, hll⟩ := IP_r P
  have R := pG.2.1.2.1
  have k := gok_lt pG.1.2
  obtain ⟨q1, q2⟩ := Gundo_ev O (d + 38) pG.1.1 pG.2.1.1 R (by omega) pG.2.2.2.2.1 hr hll
  rcases Nat.eq_zero_or_pos r with z | z
  · have mq := (Mundo_ev O (d + 39) pM.1 hr pM.2.1.2.1 pM.2.2.2.2.1).1 z
    exact ⟨_, h, _, q1 z, pM.1.isc, mq, ⟨_, _, _, _, _, _, _, _, _, _, _, _, IP_t P 0⟩, Nat.le_succ _⟩
  · obtain ⟨h1, eg, o, Pc, H⟩ := q2 z
    obtain ⟨u1, u2⟩ := PR_un pR z
    have far : ∀ i, (i < 7 ∨ 187 ≤ i) → unW W (r - 1) U i = W i := fun i hi => by unfold unW; rw [if_neg (by omega)]
    have Rn : rng (unW W (r - 1) U) := by
      refine rng_pan R (fun i hi => far i (by omega)) (fun p hp => ?_)
      obtain ⟨-, -, pj⟩ := pR
      obtain ⟨w0, ⟨-, w1⟩, ⟨-, w2⟩, ⟨-, w3⟩, w4, w5⟩ := pj 0 z p hp
      have wr := rP R hp
      have un : ∀ k, k < 6 → unW W (r - 1) U (7 + 6 * p + k) = U (180 * (r - 1 - 0) + 6 * p + k) := fun k hk => by
        unfold unW
        rw [if_pos (by omega)]
        congr 1
        omega
      have un0 := un 0 (by omega)
      rw [Nat.add_zero, Nat.add_zero] at un0
      rw [un0, un 1 (by omega), un 2 (by omega), un 3 (by omega), un 4 (by omega), un 5 (by omega), w0, w4, w5]
      exact ⟨wr.1, w1, w2, w3, wr.2.2.2.2.1, wr.2.2.2.2.2⟩
    have Ru : rng (ubW W ll A1 B1 C1) := rng_c Rn (fun i hi => (u1 i hi).symm)
    have H1 : CA h1 g.1 (unW W (r - 1) U) := CA_c H Ru u1
    have oA : ∀ b, (b = 51 ∨ (g.1 + 1 ≤ b ∧ b ≤ g.1 + 6)) → CB g.1 b ∨ PS b ∨ SCR b := fun b hb => by
      rcases hb with y | y
      · exact .inr (.inl (by unfold PS; omega))
      · exact .inl (by unfold CB; omega)
    have S1 : SH h1 := SH_out o (fun b hb => by
      rcases oA b hb with y | y | y
      · exact CB_scb k.1 y
      · exact PS_scb y
      · exfalso
        unfold SCR scb at y; rw [decide_eq_true_eq] at y; omega) pS (by omega)
    obtain ⟨a1, a2, a3, a4, a5⟩ := act_G P o oA H1 S1 Pc Rn (far 4 (by omega)) (fun i h1 h2 => far i (by omega)) (.inl rfl)
    have mq := (Mundo_ev O (d + 39) a2.1 hr a2.2.1.2.1 a2.2.2.2.2.1).2 z
    obtain ⟨n0, ⟨m1, m2, m3, m4⟩, n1, ⟨F, n2⟩, n3, n4⟩ := a2
    let hm : mH := (h1.1.set 66 (oM (upd (upd m 0 0) 6 (nI (r - 1)))), h1.2)
    have Mm : MS hm (upd (upd m 0 0) 6 (nI (r - 1))) W := ⟨hget n0.1, (hne (by decide)).trans n0.2⟩
    have o2 : out mow h1 (hT hm (unW W (r - 1) U)) := (out.st h1 _ (by unfold mow; omega)).tr1 (out.st hm _ (by unfold mow; omega))
    have P2 : IP (hT hm (unW W (r - 1) U)) g (upd (upd m 0 0) 6 (nI (r - 1))) (unW W (r - 1) U) I l (r - 1) ((ll + 11) % 12) B A1 B1 C1 U := act_M a1 a3 a4 o2 (fun b hb => hb) ⟨hT_MS Mm _, ⟨m1, pk_us, m3, m4⟩, ((hne (by decide)).trans (hne (by decide))).trans n1, ⟨F, ((hne (by decide)).trans (hne (by decide))).trans n2⟩, ((hne (by decide)).trans (hne (by decide))).trans n3, ((hne (by decide)).trans (hne (by decide))).trans n4⟩ ⟨rfl, rfl⟩ u2
    exact ⟨_, h1, _, eg, n0.isc, mq, ⟨_, _, _, _, _, _, _, _, _, _, _, _, P2⟩, by rw [o2.1, a5]; exact Nat.le_succ _⟩
theorem X_image (O : mO) (d : Nat) (P : IP h g m W I l r ll B A1 B1 C1 U) : ∃ h1 h2, ev O (d + 39) 139 0 [.ref 0] [] h = some (.inl none, h1) ∧ m_isc h1 66 8 = true ∧ ev O (d + 39) 153 0 [.ref 66, mJ] [] h1 = some (.inl none, h2) ∧ INV h2 ∧ h2.2 ≤ h.2 + 1 := by
  obtain ⟨pG, pM, pR, pS, pL⟩ := P
  obtain ⟨⟨g1, g2⟩, ⟨c1, R, V, c3⟩, ⟨a1, a2, a3, a4⟩, ⟨⟨p, t, w, t1⟩, t2, t3⟩, p1, im⟩ := pG
  have k := gok_lt g2
  obtain ⟨V0, K0⟩ : ∃ V, CA h 19 V := by
    rcases im with ⟨-, V, i2⟩ | ⟨-, i2, -⟩
    · exact ⟨V, i2⟩
    · exact ⟨_, i2⟩
  have LL : LF h g.2.2.1 := by
    rcases k.2.2.2.2.2.2.2.1 with z | z
    · rw [z]; exact a2
    · rw [z]; exact a3
  obtain ⟨h1, eg, b1, b2, b3, b4, o⟩ := Gimage_ev O (d + 38) g1 c1 R (by omega) (by omega) K0 a1 LL a4
  have oo : ∀ b, (b = 0 ∨ CB 19 b ∨ LB 42 b) → b = 0 ∨ (19 ≤ b ∧ b ≤ 27) ∨ (42 ≤ b ∧ b ≤ 46) := fun b hb => by unfold CB LB at hb; omega
  have cc : ∀ {a : Nat} {V : WD}, (1 ≤ a ∧ a ≤ 10) → CA h a V → CA h1 a V := fun ha H => H.out o (fun b hb => by have := oo b hb; omega)
  have M1 := IM_out pM o (fun b hb => by have := oo b hb; unfold mow; omega)
  obtain ⟨n0, ⟨m1, m2, m3, m4⟩, n1, ⟨F, n2⟩, n3, n4⟩ := M1
  have mq := Mimage_ev O (d + 39) n0 n1
  let I' : WD := cpN W I 1264
  have eI : ∀ i, i < 1264 → I' i = W i := fun i hi => cp_e hi
  let g' : gT := (g.1, g.2.1, g.2.2.1, g.2.2.2.1, g.2.2.2.2.1, 1)
  have D1 : CA h1 g.1 W := cc (by omega) c1
  have D3 : CA h1 g.2.1 V := cc (by omega) c3
  have E1 : LA h1 g.2.2.1 W := LA_out a1 o (fun b hb z => by have := oo b hb; unfold LB at z; omega)
  have G1 : IG h1 g' W I' l r ll B A1 B1 C1 := ⟨⟨b1, g2⟩, ⟨D1, R, V, D3⟩, ⟨E1, LF_out a2 o (fun b hb z => by have := oo b hb; unfold LB at z; omega), LF_out a3 o (fun b hb z => by have := oo b hb; unfold LB at z; omega), b4⟩, ⟨⟨p, t, w, (o.2.2 49 (fun z => by have := oo 49 z; omega)).trans t1⟩, (o.2.2 50 (fun z => by have := oo 50 z; omega)).trans t2, t3⟩, PC_o p1 o (fun b hb z => by have := oo b hb; unfold PS at z; omega), .inr ⟨rfl, CA_c b2 R (fun i hi => eI i (by omega)), rng_c R (fun i hi => eI i (by omega)), LA_c b3 (eI 4 (by omega)) (fun i h1 h2 => eI i h2)⟩⟩
  have S1 : SH h1 := SH_out o (fun b hb => by have := oo b hb; unfold scb; rw [decide_eq_false_iff_not]; omega) pS (fun z => by have := oo 83 z; omega)
  let h2 : mH := ((((tH h1 m 0).1.set 68 (aI 1264 I')).set 66 (oM (upd (upd m 0 0) 4 1))), h1.2)
  have N0 := n0.t 0
  have o2 : out mow h1 h2 := ((out.st h1 _ (by unfold mow; omega)).tr1 (out.st (tH h1 m 0) _ (by unfold mow; omega))).tr1 (out.st _ _ (by unfold mow; omega))
  have t68 : (tH h1 m 0).1[68]? = some (aI 1264 I) := (hne (by decide)).trans n1
  have f3 : ∀ b, b ≠ 66 → b ≠ 68 → h2.1[b]? = h1.1[b]? := fun b h6 h8 => ((hne (Ne.symm h6)).trans (hne (Ne.symm h8))).trans (hne (Ne.symm h6))
  have P2 : IP h2 g' (upd (upd m 0 0) 4 1) W I' l r ll B A1 B1 C1 U := act_M G1 S1 (o.2.1.trans pL) o2 (fun b hb => hb) ⟨⟨hget (c := oM (upd m 0 0)) ((hne (by decide)).trans N0.1), (f3 67 (by decide) (by decide)).trans n0.2⟩, ⟨pk_us, m2, m3, m4⟩, (hne (by decide)).trans (hget t68), ⟨F, (f3 69 (by decide) (by decide)).trans n2⟩, (f3 70 (by decide) (by decide)).trans n3, (f3 71 (by decide) (by decide)).trans n4⟩ ⟨rfl, rfl⟩ pR
  exact ⟨h1, h2, eg, n0.isc, mq, ⟨_, _, _, _, _, _, _, _, _, _, _, _, P2⟩, by rw [o2.1, o.1]; exact Nat.le_succ _⟩
theorem X_back (O : mO) (d : Nat) (P : IP h g m W I l r ll B A1 B1 C1 U) : PPq (ev O (d + 39) 140 0 [.ref 0] [] h) (fun h1 => ev O (d + 39) 154 0 [.ref 66, mJ] [] h1) h := by
  obtain ⟨pG, pM, pR, pS, pL⟩ := P
  have P : IP h g m W I l r ll B A1 B1 C1 U := ⟨pG, pM, pR, pS, pL⟩
  obtain ⟨⟨g1, g2⟩, ⟨c1, R, V, c3⟩, ⟨a1, a2, a3, a4⟩, ⟨⟨p, t, w, t1⟩, t2, t3⟩, p1, im⟩ := pG
  have k := gok_lt g2
  obtain ⟨hr, hll⟩ := IP_r P
  rcases im with ⟨i1, -⟩ | ⟨i1, i2, i3, i4⟩
  · have mq := Mback_ev O (d + 39) pM.1 pM.2.2.1
    rw [if_pos (by rw [pM.2.1.1]; exact i1)] at mq
    exact ⟨_, h, _, Gback0_ev O (d + 39) g1 i1, pM.1.isc, mq, ⟨_, _, _, _, _, _, _, _, _, _, _, _, IP_t P 0⟩, Nat.le_succ _⟩
  · have LL : LF h g.2.2.1 := by
      rcases k.2.2.2.2.2.2.2.1 with z | z
      · rw [z]; exact a2
      · rw [z]; exact a3
    obtain ⟨h1, eg, b1, b2, b3, b4, o⟩ := Gback1_ev O (d + 38) g1 i1 c1 i3 (by omega) (by omega) i2 LL i4 a4 p1
    have oo : ∀ b, (b = 51 ∨ CB g.1 b ∨ LB g.2.2.1 b) → b = 51 ∨ (g.1 ≤ b ∧ b ≤ g.1 + 8) ∨ (g.2.2.1 ≤ b ∧ b ≤ g.2.2.1 + 4) := fun b hb => by unfold CB LB at hb; exact hb
    have M1 := IM_out pM o (fun b hb => by have := oo b hb; unfold mow; omega)
    obtain ⟨n0, ⟨m1, m2, m3, m4⟩, n1, ⟨F, n2⟩, n3, n4⟩ := M1
    have mq := Mback_ev O (d + 39) n0 n1
    rw [if_neg (by rw [m1, i1]; decide)] at mq
    let W' : WD := cpN I W 1264
    have eW : ∀ i, i < 1264 → W' i = I i := fun i hi => cp_e hi
    have lf : ∀ a, (a = 28 ∨ a = 35 ∨ a = 42) → LF h a → LF h1 a := fun a ha L => by
      by_cases z : a = g.2.2.1
      · rw [z]; exact b3
      · exact LF_out L o (fun b hb y => by have := oo b hb; unfold LB at y; omega)
    have cc : ∀ {a : Nat} {V : WD}, (a = g.2.1 ∨ a = 19) → CA h a V → CA h1 a V := fun ha H => H.out o (fun b hb => by have := oo b hb; omega)
    have G1 : IG h1 g W' I l 0 ll B A1 B1 C1 := ⟨⟨(o.2.2 0 (fun z => by have := oo 0 z; omega)).trans g1, g2⟩, ⟨CA_c b1 i3 (fun i hi => eW i (by omega)), rng_c i3 (fun i hi => eW i (by omega)), V, cc (by omega) c3⟩, ⟨LA_c b2 (eW 4 (by omega)) (fun i h1 h2 => eW i h2), lf 28 (by omega) a2, lf 35 (by omega) a3, lf 42 (by omega) a4⟩, ⟨⟨p, t, w, (o.2.2 49 (fun z => by have := oo 49 z; omega)).trans t1⟩, (o.2.2 50 (fun z => by have := oo 50 z; omega)).trans t2, t3⟩, b4, .inr ⟨i1, cc (by omega) i2, i3, LA_out i4 o (fun b hb z => by have := oo b hb; unfold LB at z; omega)⟩⟩
    have S1 : SH h1 := SH_out o (fun b hb => by have := oo b hb; unfold scb; rw [decide_eq_false_iff_not]; omega) pS (fun z => by have := oo 83 z; omega)
    let h2 : mH := ((((tH h1 m 0).1.set 67 (aI 2101 W')).set 66 (oM (upd (upd m 0 0) 6 0))), h1.2)
    have N0 := n0.t 0
    have o2 : out mow h1 h2 := ((out.st h1 _ (by unfold mow; omega)).tr1 (out.st (tH h1 m 0) _ (by unfold mow; omega))).tr1 (out.st _ _ (by unfold mow; omega))
    have f3 : ∀ b, b ≠ 66 → b ≠ 67 → h2.1[b]? = h1.1[b]? := fun b h6 h8 => ((hne (Ne.symm h6)).trans (hne (Ne.symm h8))).trans (hne (Ne.symm h6))
    have P2 : IP h2 g (upd (upd m 0 0) 6 0) W' I l 0 ll B A1 B1 C1 U := act_M G1 S1 (o.2.1.trans pL) o2 (fun b hb => hb) ⟨⟨hget (c := oM (upd m 0 0)) ((hne (by decide)).trans N0.1), (hne (by decide)).trans (hget N0.2)⟩, ⟨m1, pk_us, m3, m4⟩, (f3 68 (by decide) (by decide)).trans n1, ⟨F, (f3 69 (by decide) (by decide)).trans n2⟩, (f3 70 (by decide) (by decide)).trans n3, (f3 71 (by decide) (by decide)).trans n4⟩ ⟨rfl, rfl⟩ (PR_0 _ hll _ _ _ _)
    exact ⟨_, h1, h2, eg, n0.isc, mq, ⟨_, _, _, _, _, _, _, _, _, _, _, _, P2⟩, by rw [o2.1, o.1]; exact Nat.le_succ _⟩
end ActsY
