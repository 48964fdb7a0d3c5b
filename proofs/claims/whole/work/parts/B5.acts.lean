/-! Acts: what they do to the city -/
def CB (a b : Nat) : Prop := a ≤ b ∧ b ≤ a + 8
theorem SH_out {A : Nat → Prop} {h h' : mH} (F : out A h h') (hA : ∀ b, A b → scb b = false) (S : SH h) (h8 : ¬ A 83 := by first | (unfold CB; omega) | (unfold PS; omega)) : SH h' := by
  have q : ∀ b, scb b = true → h'.1[b]? = h.1[b]? := fun b hb => F.2.2 b (fun x => by rw [hA b x] at hb; cases hb)
  refine ⟨fun b n m => ?_, ?_, ?_, ?_, ?_, ?_, ?_⟩
  · obtain ⟨f, e⟩ := S.1 b n m
    exact ⟨f, (q b (tab_ne m).1).trans e⟩
  · exact S.2.1.elim fun s e => ⟨s, (q 55 (by decide)).trans e⟩
  · exact S.2.2.1.elim fun x e => e.elim fun y e => e.elim fun z e => ⟨x, y, z, (q 56 (by decide)).trans e⟩
  · exact S.2.2.2.1.elim fun s e => ⟨s, (q 63 (by decide)).trans e⟩
  · exact S.2.2.2.2.1.elim fun s e => ⟨s, (q 64 (by decide)).trans e⟩
  · exact S.2.2.2.2.2.1.elim fun s e => ⟨s, (q 65 (by decide)).trans e⟩
  · exact S.2.2.2.2.2.2.elim fun s e => ⟨s, (F.2.2 83 h8).trans e⟩
section CAs
variable {h : mH} {a : Nat} {W : WD}
theorem fN_upd {i : Nat} (hi : 7 ≤ i) (x : Int32) : fN (upd W i x) = fN W := by
  have e : ∀ j, j < 7 → upd W i x j = W j := fun j hj => pk_un (by omega)
  have w1 : wN (upd W i x) = wN W := by unfold wN; rw [e 0 (by omega)]
  have w2 : gN (upd W i x) = gN W := by unfold gN; rw [e 1 (by omega)]
  have w5 : pN (upd W i x) = pN W := by unfold pN; rw [w1, w2]
  funext k
  unfold fN
  rw [w1, w2, w5, e 2 (by omega), e 5 (by omega), e 6 (by omega), e 3 (by omega)]
theorem CA_set (H : CA h a W) (R : rng W) {p k : Nat} (hp : p < 30) (hk : k < 6) (x : Int32) : ∃ h', m_si h (a + 1 + k) (nI p) x = some h' ∧ CA h' a (upd W (7 + 6 * p + k) x) ∧ out (CB a) h h' := by
  obtain ⟨f, e, q⟩ := H.2.1 k hk
  have h12 := kN_le R
  refine ⟨(h.1.set (a + 1 + k) (aI 30 (upd f p x)), h.2), si_n e hp (by decide) x, ⟨?_, fun j hj => ?_, ?_, ?_⟩, out.st h _ (by unfold CB; omega)⟩
  · rw [fN_upd (by omega)]
    exact (hne (by omega)).trans H.1
  · by_cases z : j = k
    · subst z
      refine ⟨upd f p x, hget e, fun r hr => ?_⟩
      by_cases y : r = p
      · subst y; rw [pk_us, pk_us]
      · rw [pk_un y, pk_un (by omega)]; exact q r hr
    · obtain ⟨f2, e2, q2⟩ := H.2.1 j hj
      exact ⟨f2, (hne (by omega)).trans e2, fun r hr => by rw [pk_un (by omega)]; exact q2 r hr⟩
  · obtain ⟨f2, e2, q2⟩ := H.2.2.1
    have kk : kN (upd W (7 + 6 * p + k) x) = kN W := by unfold kN; rw [pk_un (by omega)]
    exact ⟨f2, (hne (by omega)).trans e2, fun i hi => by rw [kk] at hi; rw [pk_un (by omega)]; exact q2 i hi⟩
  · obtain ⟨f2, e2, q2⟩ := H.2.2.2
    exact ⟨f2, (hne (by omega)).trans e2, fun i hi => by rw [pk_un (by omega)]; exact q2 i hi⟩
theorem CA_off (H : CA h a W) (R : rng W) {j : Nat} (hj : j < 180) (x : Int32) : ∃ h', m_si h (a + 8) (nI j) x = some h' ∧ CA h' a (upd W (247 + j) x) ∧ out (CB a) h h' := by
  obtain ⟨f, e, q⟩ := H.2.2.2
  have h12 := kN_le R
  refine ⟨(h.1.set (a + 8) (aI 180 (upd f j x)), h.2), si_n e hj (by decide) x, ⟨?_, fun k hk => ?_, ?_, ?_⟩, out.st h _ (by unfold CB; omega)⟩
  · rw [fN_upd (by omega)]
    exact (hne (by omega)).trans H.1
  · obtain ⟨f2, e2, q2⟩ := H.2.1 k hk
    exact ⟨f2, (hne (by omega)).trans e2, fun r hr => by rw [pk_un (by omega)]; exact q2 r hr⟩
  · obtain ⟨f2, e2, q2⟩ := H.2.2.1
    have kk : kN (upd W (247 + j) x) = kN W := by unfold kN; rw [pk_un (by omega)]
    exact ⟨f2, (hne (by omega)).trans e2, fun i hi => by rw [kk] at hi; rw [pk_un (by omega)]; exact q2 i hi⟩
  · refine ⟨upd f j x, hget e, fun i hi => ?_⟩
    by_cases y : i = j
    · subst y; rw [pk_us, pk_us]
    · rw [pk_un y, pk_un (by omega)]; exact q i hi
theorem CA_num (H : CA h a W) {i k : Nat} (hi : i = 3 ∨ i = 5 ∨ i = 6) (hk : k = if i = 3 then 17 else if i = 5 then 14 else 16) (x : Int32) : ∃ h', m_pf h a 0 k (.int x) = some h' ∧ CA h' a (upd W i x) ∧ out (CB a) h h' := by
  have w1 : wN (upd W i x) = wN W := by unfold wN; rw [pk_un (by omega)]
  have w2 : gN (upd W i x) = gN W := by unfold gN; rw [pk_un (by omega)]
  have w3 : kN (upd W i x) = kN W := by unfold kN; rw [pk_un (by omega)]
  have w5 : pN (upd W i x) = pN W := by unfold pN; rw [w1, w2]
  refine ⟨(h.1.set a (oC a (fN (upd W i x))), h.2), ?_, ⟨hget H.1, fun j hj => ?_, ?_, ?_⟩, out.st h _ (by unfold CB; omega)⟩
  · simp only [m_pf, H.1, oC]
    rcases hi with rfl | rfl | rfl
    all_goals
      subst hk
      simp only [fN, w1, w2, w5]
      rfl
  · obtain ⟨f2, e2, q2⟩ := H.2.1 j hj
    exact ⟨f2, (hne (by omega)).trans e2, fun r hr => by rw [pk_un (by omega)]; exact q2 r hr⟩
  · obtain ⟨f2, e2, q2⟩ := H.2.2.1
    exact ⟨f2, (hne (by omega)).trans e2, fun i hi => by rw [w3] at hi; rw [pk_un (by omega)]; exact q2 i hi⟩
  · obtain ⟨f2, e2, q2⟩ := H.2.2.2
    exact ⟨f2, (hne (by omega)).trans e2, fun i hi => by rw [pk_un (by omega)]; exact q2 i hi⟩
end CAs
/-- an act of the class that is not remembered: it throws e, or answers v and the city is W' -/
def GB (r : Option mR) (h : mH) (a : Nat) (W' : WD) : Option Nat → Value → Prop
  | some e, _ => r = some (.inr e, (h.1, h.2 + 1))
  | none, v => ∃ h', r = some (.inl (some v), h') ∧ out (CB a) h h' ∧ CA h' a W'
def codeIn (x lo hi : Int32) : Nat := if inB x lo hi = true then 0 else 1
theorem rng_num {W : WD} (R : rng W) {i : Nat} {x : Int32} (hi : i = 3 ∧ bd 0 10 x ∨ i = 5 ∧ bd 0 6 x ∨ i = 6 ∧ bd 0 100 x) : rng (upd W i x) := by
  obtain ⟨r1, r2, r3, r4⟩ := R
  have i7 : i < 7 := by omega
  have w1 : wN (upd W i x) = wN W := by unfold wN; rw [pk_un (by omega)]
  have w2 : gN (upd W i x) = gN W := by unfold gN; rw [pk_un (by omega)]
  have w3 : kN (upd W i x) = kN W := by unfold kN; rw [pk_un (by omega)]
  have w5 : pN (upd W i x) = pN W := by unfold pN; rw [w1, w2]
  refine ⟨?_, fun p hp => ?_, fun k hk => ?_, fun j hj => ?_⟩
  · unfold rngN at *
    rw [w1, w2, w3, pk_un (show 0 ≠ i by omega), pk_un (show 1 ≠ i by omega), pk_un (show 2 ≠ i by omega)]
    refine ⟨r1.1, r1.2.1, r1.2.2.1, ?_, ?_, ?_⟩
    · unfold sN
      by_cases z : i = 5
      · subst z
        rw [pk_us]
        have b : bd 0 6 x := by
          rcases hi with q | q | q
          · omega
          · exact q.2
          · omega
        exact bdN b (by omega) (by omega)
      · rw [pk_un (show 5 ≠ i by omega)]; exact r1.2.2.2.1
    · by_cases z : i = 3
      · subst z; rw [pk_us]
        rcases hi with q | q | q
        · exact q.2
        · omega
        · omega
      · rw [pk_un (show 3 ≠ i by omega)]; exact r1.2.2.2.2.1
    · by_cases z : i = 6
      · subst z; rw [pk_us]
        rcases hi with q | q | q
        · omega
        · omega
        · exact q.2
      · rw [pk_un (show 6 ≠ i by omega)]; exact r1.2.2.2.2.2
  · rw [pk_un (show 7 + 6 * p ≠ i by omega), pk_un (show 7 + 6 * p + 1 ≠ i by omega), pk_un (show 7 + 6 * p + 2 ≠ i by omega), pk_un (show 7 + 6 * p + 3 ≠ i by omega), pk_un (show 7 + 6 * p + 4 ≠ i by omega), pk_un (show 7 + 6 * p + 5 ≠ i by omega)]
    exact r2 p hp
  · rw [w3] at hk
    rw [w5, pk_un (show 187 + 5 * k ≠ i by omega), pk_un (show 187 + 5 * k + 1 ≠ i by omega), pk_un (show 187 + 5 * k + 2 ≠ i by omega), pk_un (show 187 + 5 * k + 3 ≠ i by omega), pk_un (show 187 + 5 * k + 4 ≠ i by omega)]
    exact r3 k hk
  · rw [pk_un (show 247 + j ≠ i by omega)]; exact r4 j hj
theorem rng_off {W : WD} (R : rng W) {j : Nat} (hj : j < 180) {x : Int32} (hx : bd 0 99 x) : rng (upd W (247 + j) x) := by
  have h12 := kN_le R
  obtain ⟨r1, r2, r3, r4⟩ := R
  have w1 : wN (upd W (247 + j) x) = wN W := by unfold wN; rw [pk_un (by omega)]
  have w2 : gN (upd W (247 + j) x) = gN W := by unfold gN; rw [pk_un (by omega)]
  have w3 : kN (upd W (247 + j) x) = kN W := by unfold kN; rw [pk_un (by omega)]
  have w4 : sN (upd W (247 + j) x) = sN W := by unfold sN; rw [pk_un (by omega)]
  have w5 : pN (upd W (247 + j) x) = pN W := by unfold pN; rw [w1, w2]
  refine ⟨?_, fun p hp => ?_, fun k hk => ?_, fun i hi => ?_⟩
  · unfold rngN at *
    rw [w1, w2, w3, w4, pk_un (show 0 ≠ 247 + j by omega), pk_un (show 1 ≠ 247 + j by omega), pk_un (show 2 ≠ 247 + j by omega), pk_un (show 5 ≠ 247 + j by omega), pk_un (show 3 ≠ 247 + j by omega), pk_un (show 6 ≠ 247 + j by omega)]
    exact r1
  · rw [pk_un (show 7 + 6 * p ≠ 247 + j by omega), pk_un (show 7 + 6 * p + 1 ≠ 247 + j by omega), pk_un (show 7 + 6 * p + 2 ≠ 247 + j by omega), pk_un (show 7 + 6 * p + 3 ≠ 247 + j by omega), pk_un (show 7 + 6 * p + 4 ≠ 247 + j by omega), pk_un (show 7 + 6 * p + 5 ≠ 247 + j by omega)]
    exact r2 p hp
  · rw [w3] at hk
    rw [w5, pk_un (show 187 + 5 * k ≠ 247 + j by omega), pk_un (show 187 + 5 * k + 1 ≠ 247 + j by omega), pk_un (show 187 + 5 * k + 2 ≠ 247 + j by omega), pk_un (show 187 + 5 * k + 3 ≠ 247 + j by omega), pk_un (show 187 + 5 * k + 4 ≠ 247 + j by omega)]
    exact r3 k hk
  · by_cases z : i = j
    · subst z; rw [pk_us]; exact hx
    · rw [pk_un (show 247 + i ≠ 247 + j by omega)]; exact r4 i hi
theorem rng_pk {W : WD} (R : rng W) {p k : Nat} (hp : p < 30) (hk : k < 6) {x : Int32} (hx : (k = 0 → bd 1 9 x) ∧ (k = 1 → bd (-40) 60 x) ∧ (k = 2 → bd 0 100 x) ∧ (k = 3 → bd 0 3 x) ∧ (k = 4 → bd 0 7 x) ∧ (k = 5 → bd 0 99 x)) : rng (upd W (7 + 6 * p + k) x) := by
  refine rng_pan R (fun i hi => pk_un (by omega)) (fun q hq => ?_)
  have r := rP R hq
  have gen : ∀ j, j < 6 → upd W (7 + 6 * p + k) x (7 + 6 * q + j) = if q = p ∧ j = k then x else W (7 + 6 * q + j) := fun j hj => by
    by_cases z : q = p ∧ j = k
    · rw [z.1, z.2, pk_us, if_pos ⟨rfl, rfl⟩]
    · rw [pk_un (by omega), if_neg z]
  have g0 : upd W (7 + 6 * p + k) x (7 + 6 * q) = if q = p ∧ 0 = k then x else W (7 + 6 * q) := gen 0 (by omega)
  rw [g0, gen 1 (by omega), gen 2 (by omega), gen 3 (by omega), gen 4 (by omega), gen 5 (by omega)]
  refine ⟨?_, ?_, ?_, ?_, ?_, ?_⟩
  · split
    · rename_i z; exact hx.1 z.2.symm
    · exact r.1
  · split
    · rename_i z; exact hx.2.1 z.2.symm
    · exact r.2.1
  · split
    · rename_i z; exact hx.2.2.1 z.2.symm
    · exact r.2.2.1
  · split
    · rename_i z; exact hx.2.2.2.1 z.2.symm
    · exact r.2.2.2.1
  · split
    · rename_i z; exact hx.2.2.2.2.1 z.2.symm
    · exact r.2.2.2.2.1
  · split
    · rename_i z; exact hx.2.2.2.2.2 z.2.symm
    · exact r.2.2.2.2.2
section Acts0
variable {h : mH} {g : gT} {W : WD}
theorem Gruns_ev (O : mO) (d : Nat) (C : CG h g W) (x : Int32) : GB (ev O (d + 1) 110 0 [.ref 0, .int x, mJ] [] h) h g.1 (upd W 6 x) (if codeIn x 0 100 = 1 then some 0 else none) (.int (W 6)) := by
  obtain ⟨G, H, ga, R, S⟩ := C
  unfold codeIn
  cases a1 : inB x 0 100
  · simp only [Bool.false_eq_true, ↓reduceIte]
    show _ = _
    simp only [e_110_0, e_110_1, e_110_2, e_110_4, e_110_7, e_110_8, e_110_11, e_110_14, e_110_15, e_110_16, e_110_19, e_110_20, e_110_23, e_110_24, Option.bind_some, Option.bind_none, m_kt, m_kn, Option.toList_some, Option.toList_none, List.nil_append, List.cons_append, List.append_nil, ltn, ite_not, ↓reduceIte, true_or, or_true, nP1, oI_s, oI_n, bI_f, bI_t, i1_0, i0_0, Bool.false_eq_true, not_true_eq_false, not_false_eq_true, iscG G, checkPane_ev O _ G H R, checkHour_ev, checkWithin_ev, checkOwner_ev, checkSeer_ev O _ G H R, gG0 G, H.isc, Bool.false_eq_true, a1]
  · simp only [↓reduceIte, Nat.zero_ne_one]
    obtain ⟨h', e, H', F⟩ := CA_num H (i := 6) (k := 16) (by omega) rfl x
    refine ⟨h', ?_, F, H'⟩
    simp only [e_110_0, e_110_1, e_110_2, e_110_4, e_110_7, e_110_8, e_110_11, e_110_14, e_110_15, e_110_16, e_110_19, e_110_20, e_110_23, e_110_24, Option.bind_some, Option.bind_none, m_kt, m_kn, Option.toList_some, Option.toList_none, List.nil_append, List.cons_append, List.append_nil, ltn, ite_not, ↓reduceIte, true_or, or_true, nP1, oI_s, oI_n, bI_f, bI_t, i1_0, i0_0, Bool.false_eq_true, not_true_eq_false, not_false_eq_true, iscG G, checkPane_ev O _ G H R, checkHour_ev, checkWithin_ev, checkOwner_ev, checkSeer_ev O _ G H R, gG0 G, H.isc, Bool.false_eq_true, a1, gC16 H, e]
theorem Gseer_ev (O : mO) (d : Nat) (C : CG h g W) : GB (ev O (d) 118 0 [.ref 0] [] h) h g.1 (upd W 5 (nI (sN W + 1))) (if sN W = 6 then some 3 else none) (.int (nI (sN W))) := by
  obtain ⟨G, H, ga, R, S⟩ := C
  have hs := sN_le R
  have c6 : ((6 : Int32) ≤ nI (sN W)) = (sN W = 6) := by
    have := nLe (a := 6) (b := sN W) (by omega) (by omega)
    rw [show nI 6 = 6 from rfl] at this
    rw [this]; apply propext; omega
  by_cases c : sN W = 6
  · rw [if_pos c]
    show _ = _
    simp only [e_118_0, e_118_1, e_118_4, e_118_7, e_118_9, e_118_12, e_118_20, e_118_21, e_118_24, e_118_25, e_118_28, e_118_29, e_118_30, e_118_33, e_118_34, e_118_37, e_118_40, e_118_41, e_118_42, Option.bind_some, Option.bind_none, m_kt, m_kn, Option.toList_some, Option.toList_none, List.nil_append, List.cons_append, List.append_nil, ltn, ite_not, ↓reduceIte, true_or, or_true, nP1, oI_s, oI_n, bI_f, bI_t, i1_0, i0_0, Bool.false_eq_true, not_true_eq_false, not_false_eq_true, gG0 G, gC14 H, rW5 R, c6, eq_true c]
  · rw [if_neg c]
    obtain ⟨h', e, H', F⟩ := CA_num H (i := 5) (k := 14) (by omega) rfl (nI (sN W + 1))
    refine ⟨h', ?_, F, H'⟩
    have G1 : h'.1[0]? = some (oG g) := (F.2.2 0 (by
      unfold CB
      rcases Nat.eq_zero_or_pos g.1 with z | z
      · have := H.1; rw [z, G] at this; cases this
      · omega)).trans G
    have s5 : upd W 5 (nI (sN W + 1)) 5 = nI (sN W + 1) := pk_us
    simp only [e_118_0, e_118_1, e_118_4, e_118_7, e_118_9, e_118_12, e_118_20, e_118_21, e_118_24, e_118_25, e_118_28, e_118_29, e_118_30, e_118_33, e_118_34, e_118_37, e_118_40, e_118_41, e_118_42, Option.bind_some, Option.bind_none, m_kt, m_kn, Option.toList_some, Option.toList_none, List.nil_append, List.cons_append, List.append_nil, ltn, ite_not, ↓reduceIte, true_or, or_true, nP1, oI_s, oI_n, bI_f, bI_t, i1_0, i0_0, Bool.false_eq_true, not_true_eq_false, not_false_eq_true, gG0 G, gC14 H, rW5 R, c6, c, e, gG0 G1, gC14 H', s5, nI_pred]
def codeOf (W : WD) (x y z : Int32) : Nat := if (inB x 0 (nI (sN W) - 1) && nPa W y) = true then (if inB z 0 99 = true then 0 else 2) else 1
def offP (x y : Int32) : Nat := 30 * x.toNatClampNeg + y.toNatClampNeg
theorem Goffer_ev (O : mO) (d : Nat) (C : CG h g W) (x y z : Int32) : GB (ev O (d + 1) 119 0 [.ref 0, .int x, .int y, .int z, mJ, mJ] [] h) h g.1 (upd W (247 + offP x y) z) (if codeOf W x y z = 1 then some 1 else if codeOf W x y z = 2 then some 0 else none) (.int (W (247 + offP x y))) := by
  obtain ⟨G, H, ga, R, S⟩ := C
  have hN := pN_le R
  have hs := sN_le R
  unfold codeOf nPa
  cases a1 : inB x 0 (nI (sN W) - 1)
  · simp only [Bool.false_and, Bool.false_eq_true, ↓reduceIte]
    show _ = _
    simp only [e_119_0, e_119_1, e_119_2, e_119_5, e_119_6, e_119_7, e_119_10, e_119_11, e_119_12, e_119_14, e_119_17, e_119_19, e_119_20, e_119_21, e_119_22, e_119_23, e_119_25, e_119_26, e_119_29, e_119_32, e_119_34, e_119_35, e_119_37, e_119_38, e_119_41, e_119_44, e_119_46, e_119_47, e_119_48, e_119_50, Option.bind_some, Option.bind_none, m_kt, m_kn, Option.toList_some, Option.toList_none, List.nil_append, List.cons_append, List.append_nil, ltn, ite_not, ↓reduceIte, true_or, or_true, nP1, oI_s, oI_n, bI_f, bI_t, i1_0, i0_0, Bool.false_eq_true, not_true_eq_false, not_false_eq_true, iscG G, checkPane_ev O _ G H R, checkHour_ev, checkWithin_ev, checkOwner_ev, checkSeer_ev O _ G H R, gG0 G, H.isc, Bool.false_eq_true, a1]
  · cases a2 : inB y 0 (nI (pN W) - 1)
    · simp only [Bool.and_false, Bool.false_eq_true, ↓reduceIte]
      show _ = _
      simp only [e_119_0, e_119_1, e_119_2, e_119_5, e_119_6, e_119_7, e_119_10, e_119_11, e_119_12, e_119_14, e_119_17, e_119_19, e_119_20, e_119_21, e_119_22, e_119_23, e_119_25, e_119_26, e_119_29, e_119_32, e_119_34, e_119_35, e_119_37, e_119_38, e_119_41, e_119_44, e_119_46, e_119_47, e_119_48, e_119_50, Option.bind_some, Option.bind_none, m_kt, m_kn, Option.toList_some, Option.toList_none, List.nil_append, List.cons_append, List.append_nil, ltn, ite_not, ↓reduceIte, true_or, or_true, nP1, oI_s, oI_n, bI_f, bI_t, i1_0, i0_0, Bool.false_eq_true, not_true_eq_false, not_false_eq_true, iscG G, checkPane_ev O _ G H R, checkHour_ev, checkWithin_ev, checkOwner_ev, checkSeer_ev O _ G H R, gG0 G, H.isc, Bool.false_eq_true, a1, a2]
    · cases a3 : inB z 0 99
      · simp only [Bool.and_true, Bool.false_eq_true, ↓reduceIte]
        show _ = _
        simp only [e_119_0, e_119_1, e_119_2, e_119_5, e_119_6, e_119_7, e_119_10, e_119_11, e_119_12, e_119_14, e_119_17, e_119_19, e_119_20, e_119_21, e_119_22, e_119_23, e_119_25, e_119_26, e_119_29, e_119_32, e_119_34, e_119_35, e_119_37, e_119_38, e_119_41, e_119_44, e_119_46, e_119_47, e_119_48, e_119_50, Option.bind_some, Option.bind_none, m_kt, m_kn, Option.toList_some, Option.toList_none, List.nil_append, List.cons_append, List.append_nil, ltn, ite_not, ↓reduceIte, true_or, or_true, nP1, oI_s, oI_n, bI_f, bI_t, i1_0, i0_0, Bool.false_eq_true, not_true_eq_false, not_false_eq_true, iscG G, checkPane_ev O _ G H R, checkHour_ev, checkWithin_ev, checkOwner_ev, checkSeer_ev O _ G H R, gG0 G, H.isc, Bool.false_eq_true, a1, a2, a3]
      · have b1 := a1
        have b2 := a2
        obtain ⟨s, hs', rfl⟩ := inB_ix (by omega) a1
        obtain ⟨p, hp, rfl⟩ := inB_ix (by omega) a2
        simp only [Bool.and_true, ↓reduceIte]
        unfold offP
        rw [nI_clamp (show s < 2 ^ 31 by omega), nI_clamp (show p < 2 ^ 31 by omega)]
        obtain ⟨h', e, H', F⟩ := CA_off H R (j := 30 * s + p) (by omega) z
        refine ⟨h', ?_, F, H'⟩
        simp only [e_119_0, e_119_1, e_119_2, e_119_5, e_119_6, e_119_7, e_119_10, e_119_11, e_119_12, e_119_14, e_119_17, e_119_19, e_119_20, e_119_21, e_119_22, e_119_23, e_119_25, e_119_26, e_119_29, e_119_32, e_119_34, e_119_35, e_119_37, e_119_38, e_119_41, e_119_44, e_119_46, e_119_47, e_119_48, e_119_50, Option.bind_some, Option.bind_none, m_kt, m_kn, Option.toList_some, Option.toList_none, List.nil_append, List.cons_append, List.append_nil, ltn, ite_not, ↓reduceIte, true_or, or_true, nP1, oI_s, oI_n, bI_f, bI_t, i1_0, i0_0, Bool.false_eq_true, not_true_eq_false, not_false_eq_true, iscG G, checkPane_ev O _ G H R, checkHour_ev, checkWithin_ev, checkOwner_ev, checkSeer_ev O _ G H R, gG0 G, H.isc, Bool.false_eq_true, b1, b2, a3, gC15 H, n30, nA, H.of (show 30 * s + p < 180 by omega), e]
end Acts0
section Acts0M
variable {h : mH} {m : Nat → Int32} {W : WD}
/-- an act of the reference: thrown is t; the world is W' where it is 0 -/
def MB (r : Option mR) (h : mH) (m : Nat → Int32) (t : Nat) (W' : WD) (v : Value) : Prop := if t = 0 then r = some (.inl (some v), hT (tH h m 0) W') else r = some (.inl (some (.int 0)), tH h m (nI t))
theorem hT_s {h : mH} {m : Nat → Int32} {W : WD} (H : MS h m W) {i : Nat} (hi : i < 2101) (x : Int32) : m_si h 67 (nI i) x = some (hT h (upd W i x)) := si_n H.2 hi (by decide) x
theorem Mruns_ev (O : mO) (d : Nat) (H : MS h m W) (x : Int32) : MB (ev O (d + 1) 202 0 [.ref 66, .int x, mJ] [] h) h m (codeIn x 0 100) (upd W 6 x) (.int (W 6)) := by
  have H0 := H.t 0
  unfold codeIn MB
  have s6 : m_si (tH h m 0) 67 6 x = some (hT (tH h m 0) (upd W 6 x)) := hT_s H0 (i := 6) (by omega) x
  cases a1 : inB x 0 100
  · simp only [e_202_0, e_202_1, e_202_2, e_202_5, e_202_6, e_202_7, e_202_8, e_202_10, e_202_13, e_202_16, e_202_17, e_202_20, e_202_21, e_202_22, e_202_25, e_202_28, e_202_29, e_202_30, e_202_31, e_202_34, e_202_36, e_202_37, e_202_38, e_202_39, e_202_42, e_202_44, e_202_45, e_202_46, e_202_47, Option.bind_some, Option.bind_none, m_kt, m_kn, Option.toList_some, Option.toList_none, List.nil_append, List.cons_append, List.append_nil, ltn, ite_not, ↓reduceIte, true_or, or_true, nP1, oI_s, oI_n, bI_f, bI_t, i1_0, i0_0, Bool.false_eq_true, not_true_eq_false, not_false_eq_true, nI_0, m1m1, Nat.one_ne_zero, two_ne0, pMt H, H0.isc, in_ev, a1, thr1_ev O d H0, tH_tH]
    rfl
  · simp only [e_202_0, e_202_1, e_202_2, e_202_5, e_202_6, e_202_7, e_202_8, e_202_10, e_202_13, e_202_16, e_202_17, e_202_20, e_202_21, e_202_22, e_202_25, e_202_28, e_202_29, e_202_30, e_202_31, e_202_34, e_202_36, e_202_37, e_202_38, e_202_39, e_202_42, e_202_44, e_202_45, e_202_46, e_202_47, Option.bind_some, Option.bind_none, m_kt, m_kn, Option.toList_some, Option.toList_none, List.nil_append, List.cons_append, List.append_nil, ltn, ite_not, ↓reduceIte, true_or, or_true, nP1, oI_s, oI_n, bI_f, bI_t, i1_0, i0_0, Bool.false_eq_true, not_true_eq_false, not_false_eq_true, nI_0, m1m1, Nat.one_ne_zero, two_ne0, pMt H, H0.isc, in_ev, a1, thr0_ev O d H0, gM1 H0.1, H0.w.w6, s6]
theorem Mseer_ev (O : mO) (d : Nat) (H : MS h m W) (R : rng W) : MB (ev O (d + 1) 216 0 [.ref 66] [] h) h m (if sN W = 6 then 1 else 0) (upd W 5 (nI (sN W + 1))) (.int (nI (sN W))) := by
  have H0 := H.t 0
  have hs := sN_le R
  unfold MB
  have c6 : (nI (sN W) = 6) = (sN W = 6) := nEq (b := 6) (by omega) (by omega)
  have s5 : m_si (tH h m 0) 67 5 (nI (sN W + 1)) = some (hT (tH h m 0) (upd W 5 (nI (sN W + 1)))) := hT_s H0 (i := 5) (by omega) _
  have H1 := H0.hT (upd W 5 (nI (sN W + 1)))
  have w5 : m_ai (hT (tH h m 0) (upd W 5 (nI (sN W + 1)))) 67 5 = some (nI (sN W + 1)) := by rw [H1.w.w5, pk_us]
  by_cases c : sN W = 6
  · simp only [e_216_0, e_216_1, e_216_2, e_216_5, e_216_6, e_216_7, e_216_10, e_216_11, e_216_12, e_216_14, e_216_17, e_216_18, e_216_21, e_216_22, e_216_23, e_216_26, e_216_29, e_216_30, e_216_31, e_216_32, e_216_35, e_216_36, e_216_37, e_216_38, e_216_39, e_216_40, e_216_41, e_216_42, e_216_45, e_216_46, e_216_47, e_216_48, e_216_49, Option.bind_some, Option.bind_none, m_kt, m_kn, Option.toList_some, Option.toList_none, List.nil_append, List.cons_append, List.append_nil, ltn, ite_not, ↓reduceIte, true_or, or_true, nP1, oI_s, oI_n, bI_f, bI_t, i1_0, i0_0, Bool.false_eq_true, not_true_eq_false, not_false_eq_true, nI_0, m1m1, Nat.one_ne_zero, two_ne0, pMt H, H0.isc, gM1 H0.1, H0.w.w5, rW5 R, c6, c, thr1_ev O d H0, tH_tH]
    rfl
  · simp only [e_216_0, e_216_1, e_216_2, e_216_5, e_216_6, e_216_7, e_216_10, e_216_11, e_216_12, e_216_14, e_216_17, e_216_18, e_216_21, e_216_22, e_216_23, e_216_26, e_216_29, e_216_30, e_216_31, e_216_32, e_216_35, e_216_36, e_216_37, e_216_38, e_216_39, e_216_40, e_216_41, e_216_42, e_216_45, e_216_46, e_216_47, e_216_48, e_216_49, Option.bind_some, Option.bind_none, m_kt, m_kn, Option.toList_some, Option.toList_none, List.nil_append, List.cons_append, List.append_nil, ltn, ite_not, ↓reduceIte, true_or, or_true, nP1, oI_s, oI_n, bI_f, bI_t, i1_0, i0_0, Bool.false_eq_true, not_true_eq_false, not_false_eq_true, nI_0, m1m1, Nat.one_ne_zero, two_ne0, pMt H, H0.isc, gM1 H0.1, H0.w.w5, rW5 R, c6, c, thr0_ev O d H0, s5, gM1 H1.1, w5, nI_pred]
theorem Moffer_ev (O : mO) (d : Nat) (H : MS h m W) (R : rng W) (x y z : Int32) : MB (ev O (d + 2) 218 0 [.ref 66, .int x, .int y, .int z, mJ, mJ] [] h) h m (codeOf W x y z) (upd W (247 + offP x y) z) (.int (W (247 + offP x y))) := by
  have H0 := H.t 0
  have hN := pN_le R
  have hs := sN_le R
  unfold codeOf nPa MB
  cases a1 : inB x 0 (nI (sN W) - 1)
  · simp only [e_218_0, e_218_1, e_218_2, e_218_5, e_218_6, e_218_7, e_218_8, e_218_11, e_218_14, e_218_15, e_218_16, e_218_19, e_218_22, e_218_23, e_218_26, e_218_27, e_218_28, e_218_31, e_218_34, e_218_35, e_218_36, e_218_37, e_218_39, e_218_42, e_218_45, e_218_46, e_218_49, e_218_50, e_218_51, e_218_54, e_218_57, e_218_58, e_218_59, e_218_62, e_218_64, e_218_65, e_218_66, e_218_67, e_218_68, e_218_69, e_218_71, e_218_72, e_218_75, e_218_77, e_218_78, e_218_80, e_218_81, e_218_84, e_218_86, e_218_87, e_218_88, e_218_90, Option.bind_some, Option.bind_none, m_kt, m_kn, Option.toList_some, Option.toList_none, List.nil_append, List.cons_append, List.append_nil, ltn, ite_not, ↓reduceIte, true_or, or_true, nP1, oI_s, oI_n, bI_f, bI_t, i1_0, i0_0, Bool.false_eq_true, not_true_eq_false, not_false_eq_true, nI_0, m1m1, Nat.one_ne_zero, two_ne0, pMt H, H0.isc, noPane_ev O _ H0.w R, noHour_ev, noSeer_ev O _ H0.w, in_ev, Bool.not_false, Bool.not_true, bI_f, bI_t, thr0_ev O _ H0, thr1_ev O _ H0, i1_0, i0_0, z01, o01, tH_tH, Bool.false_eq_true, rW5 R, a1, Bool.false_and]
    rfl
  · cases a2 : inB y 0 (nI (pN W) - 1)
    · simp only [e_218_0, e_218_1, e_218_2, e_218_5, e_218_6, e_218_7, e_218_8, e_218_11, e_218_14, e_218_15, e_218_16, e_218_19, e_218_22, e_218_23, e_218_26, e_218_27, e_218_28, e_218_31, e_218_34, e_218_35, e_218_36, e_218_37, e_218_39, e_218_42, e_218_45, e_218_46, e_218_49, e_218_50, e_218_51, e_218_54, e_218_57, e_218_58, e_218_59, e_218_62, e_218_64, e_218_65, e_218_66, e_218_67, e_218_68, e_218_69, e_218_71, e_218_72, e_218_75, e_218_77, e_218_78, e_218_80, e_218_81, e_218_84, e_218_86, e_218_87, e_218_88, e_218_90, Option.bind_some, Option.bind_none, m_kt, m_kn, Option.toList_some, Option.toList_none, List.nil_append, List.cons_append, List.append_nil, ltn, ite_not, ↓reduceIte, true_or, or_true, nP1, oI_s, oI_n, bI_f, bI_t, i1_0, i0_0, Bool.false_eq_true, not_true_eq_false, not_false_eq_true, nI_0, m1m1, Nat.one_ne_zero, two_ne0, pMt H, H0.isc, noPane_ev O _ H0.w R, noHour_ev, noSeer_ev O _ H0.w, in_ev, Bool.not_false, Bool.not_true, bI_f, bI_t, thr0_ev O _ H0, thr1_ev O _ H0, i1_0, i0_0, z01, o01, tH_tH, Bool.false_eq_true, rW5 R, a1, a2, Bool.and_false]
      rfl
    · cases a3 : inB z 0 99
      · simp only [e_218_0, e_218_1, e_218_2, e_218_5, e_218_6, e_218_7, e_218_8, e_218_11, e_218_14, e_218_15, e_218_16, e_218_19, e_218_22, e_218_23, e_218_26, e_218_27, e_218_28, e_218_31, e_218_34, e_218_35, e_218_36, e_218_37, e_218_39, e_218_42, e_218_45, e_218_46, e_218_49, e_218_50, e_218_51, e_218_54, e_218_57, e_218_58, e_218_59, e_218_62, e_218_64, e_218_65, e_218_66, e_218_67, e_218_68, e_218_69, e_218_71, e_218_72, e_218_75, e_218_77, e_218_78, e_218_80, e_218_81, e_218_84, e_218_86, e_218_87, e_218_88, e_218_90, Option.bind_some, Option.bind_none, m_kt, m_kn, Option.toList_some, Option.toList_none, List.nil_append, List.cons_append, List.append_nil, ltn, ite_not, ↓reduceIte, true_or, or_true, nP1, oI_s, oI_n, bI_f, bI_t, i1_0, i0_0, Bool.false_eq_true, not_true_eq_false, not_false_eq_true, nI_0, m1m1, Nat.one_ne_zero, two_ne0, pMt H, H0.isc, noPane_ev O _ H0.w R, noHour_ev, noSeer_ev O _ H0.w, in_ev, Bool.not_false, Bool.not_true, bI_f, bI_t, thr0_ev O _ H0, thr1_ev O _ H0, i1_0, i0_0, z01, o01, tH_tH, Bool.false_eq_true, rW5 R, a1, a2, a3, Bool.and_true]
        rfl
      · have b1 := a1
        have b2 := a2
        obtain ⟨s, hs', rfl⟩ := inB_ix (by omega) a1
        obtain ⟨p, hp, rfl⟩ := inB_ix (by omega) a2
        unfold offP
        rw [nI_clamp (show s < 2 ^ 31 by omega), nI_clamp (show p < 2 ^ 31 by omega)]
        have ea : (247 : Int32) + 30 * nI s + nI p = nI (247 + (30 * s + p)) := by rw [n30, nL247, nA, Nat.add_assoc]
        simp only [e_218_0, e_218_1, e_218_2, e_218_5, e_218_6, e_218_7, e_218_8, e_218_11, e_218_14, e_218_15, e_218_16, e_218_19, e_218_22, e_218_23, e_218_26, e_218_27, e_218_28, e_218_31, e_218_34, e_218_35, e_218_36, e_218_37, e_218_39, e_218_42, e_218_45, e_218_46, e_218_49, e_218_50, e_218_51, e_218_54, e_218_57, e_218_58, e_218_59, e_218_62, e_218_64, e_218_65, e_218_66, e_218_67, e_218_68, e_218_69, e_218_71, e_218_72, e_218_75, e_218_77, e_218_78, e_218_80, e_218_81, e_218_84, e_218_86, e_218_87, e_218_88, e_218_90, Option.bind_some, Option.bind_none, m_kt, m_kn, Option.toList_some, Option.toList_none, List.nil_append, List.cons_append, List.append_nil, ltn, ite_not, ↓reduceIte, true_or, or_true, nP1, oI_s, oI_n, bI_f, bI_t, i1_0, i0_0, Bool.false_eq_true, not_true_eq_false, not_false_eq_true, nI_0, m1m1, Nat.one_ne_zero, two_ne0, pMt H, H0.isc, noPane_ev O _ H0.w R, noHour_ev, noSeer_ev O _ H0.w, in_ev, Bool.not_false, Bool.not_true, bI_f, bI_t, thr0_ev O _ H0, thr1_ev O _ H0, i1_0, i0_0, z01, o01, tH_tH, Bool.false_eq_true, rW5 R, b1, b2, a3, Bool.and_true, ea, gM1 H0.1, H0.w.w (show 247 + (30 * s + p) < 2101 by omega), hT_s H0 (show 247 + (30 * s + p) < 2101 by omega)]
end Acts0M
