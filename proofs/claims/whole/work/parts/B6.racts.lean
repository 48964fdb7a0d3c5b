/-! Acts that are remembered: strew, blow, mend -/
/-- an act of the class: it throws e, or answers v, the city is W', and what was is remembered -/
def GP (r : Option mR) (h : mH) (a : Nat) (W W' : WD) (q l : Nat) (A B C : Nat → Int32) : Option Nat → Value → Prop
  | some e, _ => r = some (.inr e, (h.1, h.2 + 1))
  | none, v => ∃ h' A' B' C', r = some (.inl (some v), h') ∧ out (fun b => CB a b ∨ PS b ∨ SCR b) h h' ∧ CA h' a W' ∧ SH h' ∧ PC h' (min (q + 1) 12) ((l + 1) % 12) A' B' C' ∧ slot ((l + 1) % 12) 1 W A A' ∧ slot ((l + 1) % 12) 2 W B B' ∧ slot ((l + 1) % 12) 3 W C C'
theorem PS_scb {b : Nat} (h : PS b) : scb b = false := by unfold PS at h; unfold scb; rw [decide_eq_false_iff_not]; omega
theorem CB_scb {a b : Nat} (ha : a < 20) (h : CB a b) : scb b = false := by unfold CB at h; exact scb_lo (by omega)
theorem CG_pos {h : mH} {g : gT} {W : WD} (C : CG h g W) : 0 < g.1 := by
  rcases Nat.eq_zero_or_pos g.1 with z | z
  · have := C.2.1.1; rw [z, C.1] at this; cases this
  · exact z
/-- the rest of the class behind an act on the city -/
theorem CG_o {h h' : mH} {g : gT} {W V : WD} (C : CG h g W) (F : out (fun b => CB g.1 b ∨ PS b ∨ SCR b) h h') (H : CA h' g.1 V) (R : rng V) (S : SH h') : CG h' g V := by
  have p := CG_pos C
  refine ⟨(F.2.2 0 (fun q => ?_)).trans C.1, H, C.2.2.1, R, S⟩
  rcases q with q | q | q
  · unfold CB at q; omega
  · unfold PS at q; omega
  · exact absurd q (by unfold SCR; decide)
/-- the class's remembering ahead of an act -/
theorem rem_CG {h : mH} {g : gT} {W : WD} (O : mO) (d : Nat) (C : CG h g W) {q l : Nat} {A B C' : Nat → Int32} (P : PC h q l A B C') (hq : q ≤ 12) (hl : l < 12) : ∃ h1 A1 B1 C1, ev O (d) 73 0 [.ref 51, .ref g.1, mJ] [] h = some (.inl none, h1) ∧ out PS h h1 ∧ CG h1 g W ∧ PC h1 (min (q + 1) 12) ((l + 1) % 12) A1 B1 C1 ∧ slot ((l + 1) % 12) 1 W A A1 ∧ slot ((l + 1) % 12) 2 W B B1 ∧ slot ((l + 1) % 12) 3 W C' C1 := by
  have ga := C.2.2.1
  obtain ⟨h1, A1, B1, C1, e, F, P1, s1, s2, s3⟩ := remember_ev O d C.2.1 (by omega) P hq hl
  have H1 : CA h1 g.1 W := C.2.1.out F (fun b hb => by unfold PS at hb; omega)
  have S1 : SH h1 := SH_out F (fun b hb => PS_scb hb) C.2.2.2.2
  exact ⟨h1, A1, B1, C1, e, F, CG_o C (F.mo (fun b hb => .inr (.inl hb))) H1 C.2.2.2.1 S1, P1, s1, s2, s3⟩
theorem PC_o {h h' : mH} {q l : Nat} {A B C : Nat → Int32} (P : PC h q l A B C) {D : Nat → Prop} (F : out D h h') (hD : ∀ b, D b → ¬ PS b) : PC h' q l A B C := by
  have n : ∀ b, PS b → h'.1[b]? = h.1[b]? := fun b hb => F.2.2 b (fun x => hD b x hb)
  exact ⟨(n 51 (by unfold PS; omega)).trans P.1, (n 52 (by unfold PS; omega)).trans P.2.1, (n 53 (by unfold PS; omega)).trans P.2.2.1, (n 54 (by unfold PS; omega)).trans P.2.2.2⟩
def codeSt (W : WD) (x y : Int32) : Nat := if nPa W x = true then (if inB y 0 100 = true then 0 else 2) else 1
/-- a crack more in each pane of a set -/
def crF (s : Int32) : Nat → WD → WD := fun p V => upd V (7 + 6 * p + 3) (V (7 + 6 * p + 3) + bI (bt s p))
def crW (W : WD) (s : Int32) : WD := lp (crF s) (pN W) W
section Racts
variable {h : mH} {g : gT} {W : WD} {q l : Nat} {A B C' : Nat → Int32}
theorem Gstrew_ev (O : mO) (d : Nat) (C : CG h g W) (P : PC h q l A B C') (hq : q ≤ 12) (hl : l < 12) (x y : Int32) : GP (ev O (d + 1) 109 0 [.ref 0, .int x, .int y, mJ] [] h) h g.1 W (upd W (7 + 6 * x.toNatClampNeg + 2) y) q l A B C' (if codeSt W x y = 1 then some 1 else if codeSt W x y = 2 then some 0 else none) (.int (W (7 + 6 * x.toNatClampNeg + 2))) := by
  have C0 := C
  obtain ⟨G, H, ga, R, S⟩ := C
  have hN := pN_le R
  unfold codeSt nPa
  cases a1 : inB x 0 (nI (pN W) - 1)
  · simp only [Bool.false_eq_true, ↓reduceIte]
    show _ = _
    simp only [e_109_0, e_109_1, e_109_2, e_109_5, e_109_6, e_109_7, e_109_9, e_109_12, e_109_13, e_109_16, e_109_17, e_109_20, e_109_23, e_109_24, e_109_27, e_109_30, e_109_31, e_109_32, e_109_33, e_109_34, e_109_37, e_109_40, e_109_41, e_109_42, e_109_43, e_109_44, Option.bind_some, Option.bind_none, m_kt, m_kn, Option.toList_some, Option.toList_none, List.nil_append, List.cons_append, List.append_nil, ltn, ite_not, ↓reduceIte, true_or, or_true, nP1, oI_s, oI_n, bI_f, bI_t, i1_0, i0_0, Bool.false_eq_true, not_true_eq_false, not_false_eq_true, iscG G, checkPane_ev O _ G H R, checkHour_ev, checkWithin_ev, checkOwner_ev, checkSeer_ev O _ G H R, gG0 G, H.isc, Bool.false_eq_true, a1]
  · cases a2 : inB y 0 100
    · simp only [Bool.false_eq_true, ↓reduceIte]
      show _ = _
      simp only [e_109_0, e_109_1, e_109_2, e_109_5, e_109_6, e_109_7, e_109_9, e_109_12, e_109_13, e_109_16, e_109_17, e_109_20, e_109_23, e_109_24, e_109_27, e_109_30, e_109_31, e_109_32, e_109_33, e_109_34, e_109_37, e_109_40, e_109_41, e_109_42, e_109_43, e_109_44, Option.bind_some, Option.bind_none, m_kt, m_kn, Option.toList_some, Option.toList_none, List.nil_append, List.cons_append, List.append_nil, ltn, ite_not, ↓reduceIte, true_or, or_true, nP1, oI_s, oI_n, bI_f, bI_t, i1_0, i0_0, Bool.false_eq_true, not_true_eq_false, not_false_eq_true, iscG G, checkPane_ev O _ G H R, checkHour_ev, checkWithin_ev, checkOwner_ev, checkSeer_ev O _ G H R, gG0 G, H.isc, Bool.false_eq_true, a1, a2]
    · have b1 := a1
      obtain ⟨p, hp, rfl⟩ := inB_ix (by omega) a1
      simp only [↓reduceIte]
      rw [nI_clamp (show p < 2 ^ 31 by omega)]
      obtain ⟨h1, A1, B1, C1, e1, F1, K1, P1, s1, s2, s3⟩ := rem_CG O d C0 P hq hl
      obtain ⟨h2, e2, H2, F2⟩ := CA_set K1.2.1 R (show p < 30 by omega) (k := 2) (by omega) y
      have e2 : m_si h1 (g.1 + 3) (nI p) y = some h2 := e2
      refine ⟨h2, A1, B1, C1, ?_, (F1.mo (fun b hb => .inr (.inl hb))).tr1 (F2.mo (fun b hb => .inl hb)), H2, SH_out F2 (fun b hb => CB_scb ga hb) K1.2.2.2.2, PC_o P1 F2 (fun b hb z => by unfold CB at hb; unfold PS at z; omega), s1, s2, s3⟩
      simp only [e_109_0, e_109_1, e_109_2, e_109_5, e_109_6, e_109_7, e_109_9, e_109_12, e_109_13, e_109_16, e_109_17, e_109_20, e_109_23, e_109_24, e_109_27, e_109_30, e_109_31, e_109_32, e_109_33, e_109_34, e_109_37, e_109_40, e_109_41, e_109_42, e_109_43, e_109_44, Option.bind_some, Option.bind_none, m_kt, m_kn, Option.toList_some, Option.toList_none, List.nil_append, List.cons_append, List.append_nil, ltn, ite_not, ↓reduceIte, true_or, or_true, nP1, oI_s, oI_n, bI_f, bI_t, i1_0, i0_0, Bool.false_eq_true, not_true_eq_false, not_false_eq_true, iscG G, checkPane_ev O _ G H R, checkHour_ev, checkWithin_ev, checkOwner_ev, checkSeer_ev O _ G H R, gG0 G, H.isc, Bool.false_eq_true, b1, a2, gG7 G, P_isc P, e1, gG0 K1.1, gC8 K1.2.1, K1.2.1.t2 (show p < 30 by omega), e2]
theorem cr_loop (O : mO) (d : Nat) (C : CG h g W) (x y s : Int32) : ∃ h', ev O (d) 126 41 [.ref 0, .int x, .int y, .int s, .int 0] [] h = ev O (d) 126 41 [.ref 0, .int x, .int y, .int s, .int (nI (pN W))] [] h' ∧ CA h' g.1 (crW W s) ∧ out (CB g.1) h h' := by
  obtain ⟨G, H, ga, R, S⟩ := C
  have gp := CG_pos ⟨G, H, ga, R, S⟩
  have hN := pN_le R
  have e := lp_runJ (ν := mH) (F := fun i (_ : WD) hh => ev O (d) 126 41 [.ref 0, .int x, .int y, .int s, .int (nI i)] [] hh) (f := crF s) (n := pN W) (fun i V hh => CA hh g.1 V ∧ out (CB g.1) h hh ∧ (∀ j, j < 7 → V j = W j) ∧ kN V ≤ 12) (fun i V hh hi J => by
    obtain ⟨J1, J2, J3, J4⟩ := J
    have h1 : ¬ nI (pN W) ≤ nI i := nI_ge hi (by omega)
    have G1 : hh.1[0]? = some (oG g) := (J2.2.2 0 (by unfold CB; omega)).trans G
    have pV : pN V = pN W := by unfold pN wN gN; rw [J3 0 (by omega), J3 1 (by omega)]
    obtain ⟨f, ef, qf⟩ := J1.2.1 3 (by omega)
    have e2 : m_si hh (g.1 + 4) (nI i) (V (7 + 6 * i + 3) + bI (bt s i)) = some (hh.1.set (g.1 + 4) (aI 30 (upd f i (V (7 + 6 * i + 3) + bI (bt s i)))), hh.2) := si_n ef (by omega) (by decide) _
    have gc2 : m_gf hh g.1 0 2 = some (.int (nI (pN W))) := by rw [gC2 J1, pV]
    have H2 : CA (hh.1.set (g.1 + 4) (aI 30 (upd f i (V (7 + 6 * i + 3) + bI (bt s i)))), hh.2) g.1 (crF s i V) := by
      unfold crF
      refine ⟨?_, fun j hj => ?_, ?_, ?_⟩
      · rw [fN_upd (by omega)]; exact (hne (by omega)).trans J1.1
      · by_cases z : j = 3
        · subst z
          refine ⟨_, hget ef, fun r hr => ?_⟩
          by_cases w : r = i
          · subst w; rw [pk_us, pk_us]
          · rw [pk_un w, pk_un (by omega)]; exact qf r hr
        · obtain ⟨f2, e3, q3⟩ := J1.2.1 j hj
          exact ⟨f2, (hne (by omega)).trans e3, fun r hr => by rw [pk_un (by omega)]; exact q3 r hr⟩
      · obtain ⟨f2, e3, q3⟩ := J1.2.2.1
        have kk : kN (upd V (7 + 6 * i + 3) (V (7 + 6 * i + 3) + bI (bt s i))) = kN V := by unfold kN; rw [pk_un (by omega)]
        exact ⟨f2, (hne (by omega)).trans e3, fun r hr => by rw [kk] at hr; rw [pk_un (by omega)]; exact q3 r hr⟩
      · obtain ⟨f2, e3, q3⟩ := J1.2.2.2
        exact ⟨f2, (hne (by omega)).trans e3, fun r hr => by rw [pk_un (by omega)]; exact q3 r hr⟩
    refine ⟨_, ⟨H2, J2.tr1 (out.st hh _ (by unfold CB; omega)), fun j hj => (pk_un (by omega)).trans (J3 j hj), ?_⟩, ?_⟩
    · unfold crF kN; rw [pk_un (by omega)]; exact J4
    · rw [e_126_41]
      simp only [e_126_0, e_126_1, e_126_2, e_126_5, e_126_6, e_126_7, e_126_10, e_126_13, e_126_14, e_126_17, e_126_18, e_126_21, e_126_24, e_126_25, e_126_28, e_126_29, e_126_32, e_126_33, e_126_34, e_126_37, e_126_38, e_126_39, e_126_43, e_126_44, e_126_47, e_126_50, e_126_53, e_126_54, e_126_57, e_126_60, e_126_62, e_126_63, e_126_64, e_126_65, e_126_67, e_126_68, e_126_69, e_126_70, e_126_71, e_126_72, e_126_75, e_126_78, e_126_79, e_126_82, Option.bind_some, Option.bind_none, m_kt, m_kn, Option.toList_some, Option.toList_none, List.nil_append, List.cons_append, List.append_nil, ltn, ite_not, ↓reduceIte, true_or, or_true, nP1, oI_s, oI_n, bI_f, bI_t, i1_0, i0_0, Bool.false_eq_true, not_true_eq_false, not_false_eq_true, gG0 G1, gc2, h1, gC9 J1, J1.t3 (show i < 30 by omega), has_t s (show i < 32 by omega), e2]) W h ⟨H, out.rf _ h, fun _ _ => rfl, kN_le R⟩
  obtain ⟨h', J, e⟩ := e
  simp only [nI_0] at e
  exact ⟨h', e, J.1, J.2.1⟩
theorem Gblow_ev (O : mO) (d : Nat) (C : CG h g W) (P : PC h q l A B C') (hq : q ≤ 12) (hl : l < 12) (x y : Int32) : GP (ev O (d + 3) 126 0 [.ref 0, .int x, .int y, mJ, mJ] [] h) h g.1 W (crW W (woulV W x y)) q l A B C' (if codeWo W x y = 1 then some 1 else if codeWo W x y = 2 then some 0 else none) (.int (bc (woulV W x y))) := by
  have C0 := C
  obtain ⟨G, H, ga, R, S⟩ := C
  have hN := pN_le R
  unfold codeWo nPa
  cases a1 : inB x 0 (nI (pN W) - 1)
  · simp only [Bool.false_eq_true, ↓reduceIte]
    show _ = _
    simp only [e_126_0, e_126_1, e_126_2, e_126_5, e_126_6, e_126_7, e_126_10, e_126_13, e_126_14, e_126_17, e_126_18, e_126_21, e_126_24, e_126_25, e_126_28, e_126_29, e_126_32, e_126_33, e_126_34, e_126_37, e_126_38, e_126_39, e_126_41, e_126_43, e_126_44, e_126_47, e_126_50, e_126_53, e_126_54, e_126_57, e_126_60, e_126_62, e_126_63, e_126_64, e_126_65, e_126_67, e_126_68, e_126_69, e_126_70, e_126_71, e_126_72, e_126_75, e_126_78, e_126_79, e_126_82, Option.bind_some, Option.bind_none, m_kt, m_kn, Option.toList_some, Option.toList_none, List.nil_append, List.cons_append, List.append_nil, ltn, ite_not, ↓reduceIte, true_or, or_true, nP1, oI_s, oI_n, bI_f, bI_t, i1_0, i0_0, Bool.false_eq_true, not_true_eq_false, not_false_eq_true, iscG G, checkPane_ev O _ G H R, checkHour_ev, checkWithin_ev, checkOwner_ev, checkSeer_ev O _ G H R, gG0 G, H.isc, Bool.false_eq_true, a1]
  · cases a2 : inB y 1 999
    · simp only [Bool.false_eq_true, ↓reduceIte]
      show _ = _
      simp only [e_126_0, e_126_1, e_126_2, e_126_5, e_126_6, e_126_7, e_126_10, e_126_13, e_126_14, e_126_17, e_126_18, e_126_21, e_126_24, e_126_25, e_126_28, e_126_29, e_126_32, e_126_33, e_126_34, e_126_37, e_126_38, e_126_39, e_126_41, e_126_43, e_126_44, e_126_47, e_126_50, e_126_53, e_126_54, e_126_57, e_126_60, e_126_62, e_126_63, e_126_64, e_126_65, e_126_67, e_126_68, e_126_69, e_126_70, e_126_71, e_126_72, e_126_75, e_126_78, e_126_79, e_126_82, Option.bind_some, Option.bind_none, m_kt, m_kn, Option.toList_some, Option.toList_none, List.nil_append, List.cons_append, List.append_nil, ltn, ite_not, ↓reduceIte, true_or, or_true, nP1, oI_s, oI_n, bI_f, bI_t, i1_0, i0_0, Bool.false_eq_true, not_true_eq_false, not_false_eq_true, iscG G, checkPane_ev O _ G H R, checkHour_ev, checkWithin_ev, checkOwner_ev, checkSeer_ev O _ G H R, gG0 G, H.isc, Bool.false_eq_true, a1, a2]
    · have b1 := a1
      have b2 := a2
      obtain ⟨p, hp, rfl⟩ := inB_ix (by omega) a1
      obtain ⟨f, f1, f2, rfl⟩ := inB1_999 a2
      simp only [↓reduceIte]
      unfold woulV
      rw [nI_clamp (show p < 2 ^ 31 by omega), nI_clamp (show f < 2 ^ 31 by omega)]
      obtain ⟨h1, A1, B1, C1, e1, F1, K1, P1, s1, s2, s3⟩ := rem_CG O (d + 2) C0 P hq hl
      have st := strike_ev O d K1.2.1 (by omega) K1.2.2.2.2.2.1 R hp (show f < 2 ^ 20 by omega)
      have K2 : CG (hk h1 (stS W p f).2) g W := sc_CG (sc_hk _) K1
      have P2 : PC (hk h1 (stS W p f).2) _ _ A1 B1 C1 := PC_o P1 (out.st (A := fun b => b = 55) h1 _ rfl) (fun b hb z => by subst hb; unfold PS at z; omega)
      obtain ⟨h3, e3, H3, F3⟩ := cr_loop O (d + 3) K2 (nI p) (nI f) (stS W p f).1
      have G3 : h3.1[0]? = some (oG g) := (F3.2.2 0 (by have := CG_pos C0; unfold CB; omega)).trans K2.1
      have pV : pN (crW W (stS W p f).1) = pN W := by
        have : ∀ n, n ≤ 30 → ∀ j, j < 7 → lp (crF (stS W p f).1) n W j = W j := by
          intro n
          induction n with
          | zero => intro _ j _; rfl
          | succ n ih => intro hn j hj; rw [lp_s, crF, pk_un (by omega)]; exact ih (by omega) j hj
        have a0 : crW W (stS W p f).1 0 = W 0 := this _ hN 0 (by omega)
        have a1 : crW W (stS W p f).1 1 = W 1 := this _ hN 1 (by omega)
        unfold pN wN gN
        rw [a0, a1]
      have gc2 : m_gf h3 g.1 0 2 = some (.int (nI (pN W))) := by rw [gC2 H3, pV]
      refine ⟨h3, A1, B1, C1, ?_, ((F1.mo (fun b hb => .inr (.inl hb))).tr1 (out.st h1 _ (.inr (.inr (by rfl))))).tr1 (F3.mo (fun b hb => .inl hb)), H3, SH_out F3 (fun b hb => CB_scb ga hb) K2.2.2.2.2, PC_o P2 F3 (fun b hb z => by unfold CB at hb; unfold PS at z; omega), s1, s2, s3⟩
      simp only [e_126_0, e_126_1, e_126_2, e_126_5, e_126_6, e_126_7, e_126_10, e_126_13, e_126_14, e_126_17, e_126_18, e_126_21, e_126_24, e_126_25, e_126_28, e_126_29, e_126_32, e_126_33, e_126_34, e_126_37, e_126_38, e_126_39, e_126_43, e_126_44, e_126_47, e_126_50, e_126_53, e_126_54, e_126_57, e_126_60, e_126_62, e_126_63, e_126_64, e_126_65, e_126_67, e_126_68, e_126_69, e_126_70, e_126_71, e_126_72, e_126_75, e_126_78, e_126_79, e_126_82, Option.bind_some, Option.bind_none, m_kt, m_kn, Option.toList_some, Option.toList_none, List.nil_append, List.cons_append, List.append_nil, ltn, ite_not, ↓reduceIte, true_or, or_true, nP1, oI_s, oI_n, bI_f, bI_t, i1_0, i0_0, Bool.false_eq_true, not_true_eq_false, not_false_eq_true, iscG G, checkPane_ev O _ G H R, checkHour_ev, checkWithin_ev, checkOwner_ev, checkSeer_ev O _ G H R, gG0 G, H.isc, Bool.false_eq_true, b1, b2, gG7 G, P_isc P, e1, gG8 K1.1, gG0 K1.1, K_isc K1.2.2.2.2.2.1, st]
      rw [e3, e_126_41]
      simp only [e_126_0, e_126_1, e_126_2, e_126_5, e_126_6, e_126_7, e_126_10, e_126_13, e_126_14, e_126_17, e_126_18, e_126_21, e_126_24, e_126_25, e_126_28, e_126_29, e_126_32, e_126_33, e_126_34, e_126_37, e_126_38, e_126_39, e_126_43, e_126_44, e_126_47, e_126_50, e_126_53, e_126_54, e_126_57, e_126_60, e_126_62, e_126_63, e_126_64, e_126_65, e_126_67, e_126_68, e_126_69, e_126_70, e_126_71, e_126_72, e_126_75, e_126_78, e_126_79, e_126_82, Option.bind_some, Option.bind_none, m_kt, m_kn, Option.toList_some, Option.toList_none, List.nil_append, List.cons_append, List.append_nil, ltn, ite_not, ↓reduceIte, true_or, or_true, nP1, oI_s, oI_n, bI_f, bI_t, i1_0, i0_0, Bool.false_eq_true, not_true_eq_false, not_false_eq_true, gG0 G3, gc2, Int32.le_refl, bitCount_ev]
end Racts
