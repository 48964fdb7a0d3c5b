/-! Blows: which pane a crack runs to -/
def tN (W : WD) (p : Nat) : Nat := (W (7 + 6 * p)).toNatClampNeg
def rN (W : WD) : Nat := (W 6).toNatClampNeg
def ofN (W : WD) (q p : Nat) : Nat := ((W (7 + 6 * q + 1)).toInt - (W (7 + 6 * p + 1)).toInt).natAbs
theorem tNe {W : WD} (R : rng W) {p : Nat} (hp : p < 30) : W (7 + 6 * p) = nI (tN W p) ∧ 1 ≤ tN W p ∧ tN W p ≤ 9 := by
  have h := (rP R hp).1
  have b := bd_nI h (by omega)
  unfold bd at h
  exact ⟨b.1, by unfold tN; omega, by unfold tN; omega⟩
theorem rNe {W : WD} (R : rng W) : W 6 = nI (rN W) ∧ rN W ≤ 100 := by
  have h := R.1.2.2.2.2.2
  have b := bd_nI h (by omega)
  unfold bd at h
  exact ⟨b.1, by unfold rN; omega⟩
theorem abs_of {W : WD} (R : rng W) {q p : Nat} (hq : q < 30) (hp : p < 30) : (if 0 ≤ W (7 + 6 * q + 1) - W (7 + 6 * p + 1) then W (7 + 6 * q + 1) - W (7 + 6 * p + 1) else 0 - (W (7 + 6 * q + 1) - W (7 + 6 * p + 1))) = nI (ofN W q p) := abs_nI (rP R hq).2.1 (rP R hp).2.1 (by omega) (by omega)
theorem ofN_le {W : WD} (R : rng W) {q p : Nat} (hq : q < 30) (hp : p < 30) : ofN W q p ≤ 100 := by
  have a := (rP R hq).2.1
  have b := (rP R hp).2.1
  unfold bd at a b
  unfold ofN
  omega
def bet (W : WD) (p q : Nat) : Option Nat → Bool
  | none => true
  | some b => decide (ofN W b p < ofN W q p)
def nxQ (W : WD) (l : Nat) (wh : Nat → Bool) (p q : Nat) (s : Option Nat × Nat) : Option Nat × Nat :=
  if wh q = true then (if ofN W q p < rN W then s else if l ≤ 5 * tN W q then (s.1, min s.2 (1 + 5 * tN W q - l)) else if bet W p q s.1 = true then (some q, s.2) else s) else s
def nxS (W : WD) (l : Nat) (wh : Nat → Bool) (p k : Nat) (s : Option Nat × Nat) : Option Nat × Nat := (bes (wN W) (gN W) p k).elim s (fun q => nxQ W l wh p q s)
theorem oI_n : oI none = -1 := rfl
theorem oI_s (q : Nat) : oI (some q) = nI q := rfl
def moI (W : WD) (p : Nat) : Option Nat → Int32
  | none => -1
  | some b => nI (ofN W b p)
def mmI (W : WD) (p : Nat) : Option Nat → Int32
  | none => 0
  | some b => nI (ofN W b p)
theorem moI_s (W : WD) (p q : Nat) : moI W p (some q) = nI (ofN W q p) := rfl
theorem mmI_s (W : WD) (p q : Nat) : mmI W p (some q) = nI (ofN W q p) := rfl
def oK (s : Int32) : mC := .inr (1, [.int s])
def hk (h : mH) (s : Nat) : mH := (h.1.set 55 (oK (nI s)), h.2)
def KA (h : mH) : Prop := ∃ s, h.1[55]? = some (oK s)
theorem hk_at {h : mH} (K : KA h) (s : Nat) : (hk h s).1[55]? = some (oK (nI s)) := K.elim fun _ e => hget e
theorem hk_KA {h : mH} (K : KA h) (s : Nat) : KA (hk h s) := ⟨_, hk_at K s⟩
theorem hk_hk (h : mH) (s t : Nat) : hk (hk h s) t = hk h t := by unfold hk; rw [List.set_set]
theorem hk_g {h : mH} (K : KA h) (s : Nat) : m_gf (hk h s) 55 1 0 = some (.int (nI s)) := by simp only [m_gf, hk_at K s, oK, ↓reduceIte]; rfl
theorem hk_p {h : mH} (K : KA h) (s t : Nat) : m_pf (hk h s) 55 1 0 (.int (nI t)) = some (hk h t) := by
  simp only [m_pf, hk_at K s, oK]
  show some ((hk h s).1.set 55 (oK (nI t)), (hk h s).2) = _
  rw [show ((hk h s).1.set 55 (oK (nI t)), (hk h s).2) = hk (hk h s) t from rfl, hk_hk]
theorem hk_p0 {h : mH} (K : KA h) (t : Nat) : m_pf h 55 1 0 (.int (nI t)) = some (hk h t) := by
  obtain ⟨s, e⟩ := K
  simp only [m_pf, e, oK]
  rfl
theorem hk_isc {h : mH} (K : KA h) (s : Nat) : m_isc (hk h s) 55 1 = true := by simp only [m_isc, hk_at K s, oK]; rfl
theorem K_isc {h : mH} (K : KA h) : m_isc h 55 1 = true := by obtain ⟨s, e⟩ := K; simp only [m_isc, e, oK]; rfl
theorem CA.hk {h : mH} {a : Nat} {W : WD} (H : CA h a W) (ha : a < 28) (s : Nat) : CA (hk h s) a W := H.out (A := fun b => b = 55) (out.st h _ rfl) (fun b hb => by omega)
theorem nx_fin {W : WD} (R : rng W) {l p q sl : Nat} {bo : Option Nat} (hq : q < 30) (hp : p < 30) (hb : ∀ b, bo = some b → b < 30) (hs : sl ≤ 1000) (wh : Nat → Bool) : ((nxQ W l wh p q (bo, sl)).2 ≤ 1000) ∧ ∀ b, (nxQ W l wh p q (bo, sl)).1 = some b → b < 30 := by
  unfold nxQ
  split
  · split
    · exact ⟨hs, hb⟩
    · split
      · exact ⟨by simp only; omega, hb⟩
      · split
        · exact ⟨hs, fun b e => by cases e; exact hq⟩
        · exact ⟨hs, hb⟩
  · exact ⟨hs, hb⟩
section Crack
variable {h : mH} {a : Nat} {W : WD}
theorem nextPane_ev (O : mO) (d : Nat) (H : CA h a W) (ha : a < 28) (K : KA h) (R : rng W) {p l sl : Nat} (hp : p < pN W) (hl : l < 2 ^ 20) (hs : sl ≤ 1000) (whole : Int32) :
    ev O (d + 1) 25 0 [.ref 55, .ref a, .int (nI p), .int whole, .int (nI l), mJ, mJ, mJ, mJ, mJ, mJ] [] (hk h sl) = some (.inl (some (.int (oI (lp (nxS W l (bt whole) p) 4 (none, sl)).1))), hk h (lp (nxS W l (bt whole) p) 4 (none, sl)).2) := by
  have hN := pN_le R
  have hw := R.1.1.2
  obtain ⟨re, rl⟩ := rNe R
  have e := lp_runVI (ν := Value × Value × Value) (fun _ s => s.2 ≤ 1000 ∧ ∀ b, s.1 = some b → b < 30) (F := fun i s v => ev O (d + 1) 25 9 [.ref 55, .ref a, .int (nI p), .int whole, .int (nI l), .int (oI s.1), .int (moI W p s.1), .int (nI i), v.1, v.2.1, v.2.2] [] (hk h s.2)) (f := nxS W l (bt whole) p) (n := 4) (s := (none, sl)) ⟨hs, fun b e => by cases e⟩ (fun i s v hi I => by
    obtain ⟨bo, s2⟩ := s
    obtain ⟨i1, i2⟩ := I
    simp only at i1 i2
    have h1 : ¬ (4 : Int32) ≤ nI i := nI_ge (b := 4) hi (by omega)
    have hb := beside_ev O d (H.hk ha s2) R hp hi
    unfold nxS
    simp only
    rw [e_25_9]
    simp only [e_25_0, e_25_1, e_25_3, e_25_4, e_25_6, e_25_7, e_25_11, e_25_12, e_25_15, e_25_16, e_25_17, e_25_19, e_25_22, e_25_24, e_25_26, e_25_27, e_25_30, e_25_31, e_25_33, e_25_34, e_25_35, e_25_36, e_25_39, e_25_42, e_25_43, e_25_46, e_25_48, e_25_49, e_25_50, e_25_53, e_25_54, e_25_55, e_25_56, e_25_59, e_25_61, e_25_63, e_25_64, e_25_65, e_25_68, e_25_70, e_25_71, e_25_72, e_25_73, e_25_75, e_25_77, e_25_78, e_25_81, e_25_84, e_25_87, e_25_89, e_25_92, e_25_93, e_25_94, e_25_97, e_25_98, e_25_100, e_25_101, e_25_104, e_25_107, e_25_110, e_25_112, e_25_114, e_25_117, e_25_119, e_25_121, e_25_123, e_25_125, e_25_128, e_25_131, e_25_133, Option.bind_some, Option.bind_none, m_kt, m_kn, Option.toList_some, Option.toList_none, List.nil_append, List.cons_append, List.append_nil, ltn, ite_not, ↓reduceIte, true_or, or_true, h1, (H.hk ha s2).isc, hb, nP1]
    cases e : bes (wN W) (gN W) p i with
    | none =>
      refine ⟨⟨i1, i2⟩, ?_⟩
      simp only [oI_n, Option.elim_none, ↓reduceIte]
      exact ⟨(_, _, _), rfl⟩
    | some q =>
      have hq : q < pN W := bes_lt hw.1 hp e
      obtain ⟨te, t1, t9⟩ := tNe R (show q < 30 by omega)
      have ol := ofN_le R (show q < 30 by omega) (show p < 30 by omega)
      refine ⟨nx_fin R (by omega) (by omega) i2 i1 _, ?_⟩
      simp only [Option.elim_some, nxQ]
      have m1 : (nI (ofN W q p) ≤ moI W p bo) = ¬ (bet W p q bo = true) := by
        cases bo with
        | none =>
          simp only [moI, bet, not_true, eq_iff_iff, iff_false]
          intro q2
          rw [i_le, nI_toInt (by omega)] at q2
          have : (-1 : Int32).toInt = -1 := by decide
          omega
        | some b =>
          have ob := ofN_le R (i2 b rfl) (show p < 30 by omega)
          simp only [moI, bet, decide_eq_true_eq, nLe (show ofN W q p < 2 ^ 31 by omega) (show ofN W b p < 2 ^ 31 by omega)]
          apply propext; omega
      have m2 : (nI l - 5 * nI (tN W q) ≤ 0) = (l ≤ 5 * tN W q) := by rw [n5, sub_le0 (by omega) (by omega)]
      by_cases c1 : bt whole q = true
      · by_cases c2 : rN W ≤ ofN W q p
        · by_cases c3 : l ≤ 5 * tN W q
          · have m3 : (1 : Int32) - (nI l - 5 * nI (tN W q)) = nI (1 + 5 * tN W q - l) := by
              apply Int32.toInt_inj.mp
              have a1 : (nI l - 5 * nI (tN W q)).toInt = (l : Int) - (5 * tN W q : Nat) := by rw [n5]; exact pk_sub_toInt (by omega) (by omega)
              have a2 : (1 : Int32).toInt = 1 := by decide
              rw [nI_toInt (by omega), fb_subI (by rw [a1, a2]; omega) (by rw [a1, a2]; omega), a1, a2]
              omega
            have m4 : (if nI (1 + 5 * tN W q - l) < nI s2 then nI (1 + 5 * tN W q - l) else nI s2) = nI (min s2 (1 + 5 * tN W q - l)) := by
              by_cases z : 1 + 5 * tN W q - l < s2
              · rw [if_pos (nI_lt z (by omega)), Nat.min_eq_right (by omega)]
              · rw [if_neg (nI_nlt (by omega) (by omega)), Nat.min_eq_left (by omega)]
            have m4' : (if nI s2 ≤ nI (1 + 5 * tN W q - l) then nI s2 else nI (1 + 5 * tN W q - l)) = nI (min s2 (1 + 5 * tN W q - l)) := by
              rw [← m4]; simp only [ltn, ite_not]
            simp only [e_25_0, e_25_1, e_25_3, e_25_4, e_25_6, e_25_7, e_25_11, e_25_12, e_25_15, e_25_16, e_25_17, e_25_19, e_25_22, e_25_24, e_25_26, e_25_27, e_25_30, e_25_31, e_25_33, e_25_34, e_25_35, e_25_36, e_25_39, e_25_42, e_25_43, e_25_46, e_25_48, e_25_49, e_25_50, e_25_53, e_25_54, e_25_55, e_25_56, e_25_59, e_25_61, e_25_63, e_25_64, e_25_65, e_25_68, e_25_70, e_25_71, e_25_72, e_25_73, e_25_75, e_25_77, e_25_78, e_25_81, e_25_84, e_25_87, e_25_89, e_25_92, e_25_93, e_25_94, e_25_97, e_25_98, e_25_100, e_25_101, e_25_104, e_25_107, e_25_110, e_25_112, e_25_114, e_25_117, e_25_119, e_25_121, e_25_123, e_25_125, e_25_128, e_25_131, e_25_133, oI_s, nP1, nm1 (show q < 2 ^ 31 by omega), ↓reduceIte, has_t whole (show q < 32 by omega), c1, bI_t, i1_0, gC7 (H.hk ha s2), gC6 (H.hk ha s2), gC16 (H.hk ha s2), (H.hk ha s2).t1 (show q < 30 by omega), (H.hk ha s2).t1 (show p < 30 by omega), (H.hk ha s2).t0 (show q < 30 by omega), Option.bind_some, Option.bind_none, m_kt, m_kn, Option.toList_some, Option.toList_none, List.nil_append, List.cons_append, List.append_nil, ltn, ite_not, ↓reduceIte, true_or, or_true, abs_of R (show q < 30 by omega) (show p < 30 by omega), re, te, nLe (show rN W < 2 ^ 31 by omega) (show ofN W q p < 2 ^ 31 by omega), c2, m2, c3, hk_g K, m3, m4', hk_p K, Nat.not_lt.mpr c2]
            exact ⟨(_, _, _), rfl⟩
          · by_cases c4 : bet W p q bo = true
            · simp only [e_25_0, e_25_1, e_25_3, e_25_4, e_25_6, e_25_7, e_25_11, e_25_12, e_25_15, e_25_16, e_25_17, e_25_19, e_25_22, e_25_24, e_25_26, e_25_27, e_25_30, e_25_31, e_25_33, e_25_34, e_25_35, e_25_36, e_25_39, e_25_42, e_25_43, e_25_46, e_25_48, e_25_49, e_25_50, e_25_53, e_25_54, e_25_55, e_25_56, e_25_59, e_25_61, e_25_63, e_25_64, e_25_65, e_25_68, e_25_70, e_25_71, e_25_72, e_25_73, e_25_75, e_25_77, e_25_78, e_25_81, e_25_84, e_25_87, e_25_89, e_25_92, e_25_93, e_25_94, e_25_97, e_25_98, e_25_100, e_25_101, e_25_104, e_25_107, e_25_110, e_25_112, e_25_114, e_25_117, e_25_119, e_25_121, e_25_123, e_25_125, e_25_128, e_25_131, e_25_133, oI_s, nP1, nm1 (show q < 2 ^ 31 by omega), ↓reduceIte, has_t whole (show q < 32 by omega), c1, bI_t, i1_0, gC7 (H.hk ha s2), gC6 (H.hk ha s2), gC16 (H.hk ha s2), (H.hk ha s2).t1 (show q < 30 by omega), (H.hk ha s2).t1 (show p < 30 by omega), (H.hk ha s2).t0 (show q < 30 by omega), Option.bind_some, Option.bind_none, m_kt, m_kn, Option.toList_some, Option.toList_none, List.nil_append, List.cons_append, List.append_nil, ltn, ite_not, ↓reduceIte, true_or, or_true, abs_of R (show q < 30 by omega) (show p < 30 by omega), re, te, nLe (show rN W < 2 ^ 31 by omega) (show ofN W q p < 2 ^ 31 by omega), c2, m2, c3, m1, c4, not_true, Nat.not_lt.mpr c2, moI_s]
              exact ⟨(_, _, _), rfl⟩
            · simp only [e_25_0, e_25_1, e_25_3, e_25_4, e_25_6, e_25_7, e_25_11, e_25_12, e_25_15, e_25_16, e_25_17, e_25_19, e_25_22, e_25_24, e_25_26, e_25_27, e_25_30, e_25_31, e_25_33, e_25_34, e_25_35, e_25_36, e_25_39, e_25_42, e_25_43, e_25_46, e_25_48, e_25_49, e_25_50, e_25_53, e_25_54, e_25_55, e_25_56, e_25_59, e_25_61, e_25_63, e_25_64, e_25_65, e_25_68, e_25_70, e_25_71, e_25_72, e_25_73, e_25_75, e_25_77, e_25_78, e_25_81, e_25_84, e_25_87, e_25_89, e_25_92, e_25_93, e_25_94, e_25_97, e_25_98, e_25_100, e_25_101, e_25_104, e_25_107, e_25_110, e_25_112, e_25_114, e_25_117, e_25_119, e_25_121, e_25_123, e_25_125, e_25_128, e_25_131, e_25_133, oI_s, nP1, nm1 (show q < 2 ^ 31 by omega), ↓reduceIte, has_t whole (show q < 32 by omega), c1, bI_t, i1_0, gC7 (H.hk ha s2), gC6 (H.hk ha s2), gC16 (H.hk ha s2), (H.hk ha s2).t1 (show q < 30 by omega), (H.hk ha s2).t1 (show p < 30 by omega), (H.hk ha s2).t0 (show q < 30 by omega), Option.bind_some, Option.bind_none, m_kt, m_kn, Option.toList_some, Option.toList_none, List.nil_append, List.cons_append, List.append_nil, ltn, ite_not, ↓reduceIte, true_or, or_true, abs_of R (show q < 30 by omega) (show p < 30 by omega), re, te, nLe (show rN W < 2 ^ 31 by omega) (show ofN W q p < 2 ^ 31 by omega), c2, m2, c3, m1, c4, not_false_eq_true, Nat.not_lt.mpr c2, Bool.false_eq_true]
              exact ⟨(_, _, _), rfl⟩
        · simp only [e_25_0, e_25_1, e_25_3, e_25_4, e_25_6, e_25_7, e_25_11, e_25_12, e_25_15, e_25_16, e_25_17, e_25_19, e_25_22, e_25_24, e_25_26, e_25_27, e_25_30, e_25_31, e_25_33, e_25_34, e_25_35, e_25_36, e_25_39, e_25_42, e_25_43, e_25_46, e_25_48, e_25_49, e_25_50, e_25_53, e_25_54, e_25_55, e_25_56, e_25_59, e_25_61, e_25_63, e_25_64, e_25_65, e_25_68, e_25_70, e_25_71, e_25_72, e_25_73, e_25_75, e_25_77, e_25_78, e_25_81, e_25_84, e_25_87, e_25_89, e_25_92, e_25_93, e_25_94, e_25_97, e_25_98, e_25_100, e_25_101, e_25_104, e_25_107, e_25_110, e_25_112, e_25_114, e_25_117, e_25_119, e_25_121, e_25_123, e_25_125, e_25_128, e_25_131, e_25_133, oI_s, nP1, nm1 (show q < 2 ^ 31 by omega), ↓reduceIte, has_t whole (show q < 32 by omega), c1, bI_t, i1_0, gC7 (H.hk ha s2), gC6 (H.hk ha s2), gC16 (H.hk ha s2), (H.hk ha s2).t1 (show q < 30 by omega), (H.hk ha s2).t1 (show p < 30 by omega), (H.hk ha s2).t0 (show q < 30 by omega), Option.bind_some, Option.bind_none, m_kt, m_kn, Option.toList_some, Option.toList_none, List.nil_append, List.cons_append, List.append_nil, ltn, ite_not, ↓reduceIte, true_or, or_true, abs_of R (show q < 30 by omega) (show p < 30 by omega), re, te, nLe (show rN W < 2 ^ 31 by omega) (show ofN W q p < 2 ^ 31 by omega), c2, Nat.lt_of_not_le c2]
          exact ⟨(_, _, _), rfl⟩
      · have c1 : bt whole q = false := by simpa using c1
        simp only [e_25_0, e_25_1, e_25_3, e_25_4, e_25_6, e_25_7, e_25_11, e_25_12, e_25_15, e_25_16, e_25_17, e_25_19, e_25_22, e_25_24, e_25_26, e_25_27, e_25_30, e_25_31, e_25_33, e_25_34, e_25_35, e_25_36, e_25_39, e_25_42, e_25_43, e_25_46, e_25_48, e_25_49, e_25_50, e_25_53, e_25_54, e_25_55, e_25_56, e_25_59, e_25_61, e_25_63, e_25_64, e_25_65, e_25_68, e_25_70, e_25_71, e_25_72, e_25_73, e_25_75, e_25_77, e_25_78, e_25_81, e_25_84, e_25_87, e_25_89, e_25_92, e_25_93, e_25_94, e_25_97, e_25_98, e_25_100, e_25_101, e_25_104, e_25_107, e_25_110, e_25_112, e_25_114, e_25_117, e_25_119, e_25_121, e_25_123, e_25_125, e_25_128, e_25_131, e_25_133, oI_s, nP1, nm1 (show q < 2 ^ 31 by omega), ↓reduceIte, has_t whole (show q < 32 by omega), c1, bI_f, i0_0, Bool.false_eq_true]
        exact ⟨(_, _, _), rfl⟩) (mJ, mJ, mJ)
  simp only [e_25_0, e_25_1, e_25_3, e_25_4, e_25_6, e_25_7, e_25_11, e_25_12, e_25_15, e_25_16, e_25_17, e_25_19, e_25_22, e_25_24, e_25_26, e_25_27, e_25_30, e_25_31, e_25_33, e_25_34, e_25_35, e_25_36, e_25_39, e_25_42, e_25_43, e_25_46, e_25_48, e_25_49, e_25_50, e_25_53, e_25_54, e_25_55, e_25_56, e_25_59, e_25_61, e_25_63, e_25_64, e_25_65, e_25_68, e_25_70, e_25_71, e_25_72, e_25_73, e_25_75, e_25_77, e_25_78, e_25_81, e_25_84, e_25_87, e_25_89, e_25_92, e_25_93, e_25_94, e_25_97, e_25_98, e_25_100, e_25_101, e_25_104, e_25_107, e_25_110, e_25_112, e_25_114, e_25_117, e_25_119, e_25_121, e_25_123, e_25_125, e_25_128, e_25_131, e_25_133, Option.bind_some, Option.bind_none, m_kt, m_kn, Option.toList_some, Option.toList_none, List.nil_append, List.cons_append, List.append_nil, ltn, ite_not, ↓reduceIte, true_or, or_true]
  simp only [nI_0, oI, moI] at e
  obtain ⟨-, v, e⟩ := e
  rw [e, e_25_9]
  simp only [e_25_0, e_25_1, e_25_3, e_25_4, e_25_6, e_25_7, e_25_11, e_25_12, e_25_15, e_25_16, e_25_17, e_25_19, e_25_22, e_25_24, e_25_26, e_25_27, e_25_30, e_25_31, e_25_33, e_25_34, e_25_35, e_25_36, e_25_39, e_25_42, e_25_43, e_25_46, e_25_48, e_25_49, e_25_50, e_25_53, e_25_54, e_25_55, e_25_56, e_25_59, e_25_61, e_25_63, e_25_64, e_25_65, e_25_68, e_25_70, e_25_71, e_25_72, e_25_73, e_25_75, e_25_77, e_25_78, e_25_81, e_25_84, e_25_87, e_25_89, e_25_92, e_25_93, e_25_94, e_25_97, e_25_98, e_25_100, e_25_101, e_25_104, e_25_107, e_25_110, e_25_112, e_25_114, e_25_117, e_25_119, e_25_121, e_25_123, e_25_125, e_25_128, e_25_131, e_25_133, Option.bind_some, Option.bind_none, m_kt, m_kn, Option.toList_some, Option.toList_none, List.nil_append, List.cons_append, List.append_nil, ltn, ite_not, ↓reduceIte, true_or, or_true, (show ((4 : Int32) ≤ nI 4) = True by decide)]
  rfl
end Crack
