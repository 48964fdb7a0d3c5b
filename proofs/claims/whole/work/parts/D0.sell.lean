/-! The class's market: selling, the best of the sets -/
theorem sc63 (h : mH) (x : Int32) : sc h (h.1.set 63 (oMk x), h.2) := by
  refine ⟨out.st h _ (by unfold SCR; decide), fun S => ⟨fun b n m => ?_, ?_, ?_, ?_, ?_, ?_, ?_⟩⟩
  · obtain ⟨f, e⟩ := S.1 b n m
    exact ⟨f, (hne (fun z => (tab_scb _ m).2.2.2.1 z.symm)).trans e⟩
  · exact S.2.1.elim fun s e => ⟨s, (hne (by decide)).trans e⟩
  · exact S.2.2.1.elim fun x e => e.elim fun y e => e.elim fun z e => ⟨x, y, z, (hne (by decide)).trans e⟩
  · exact S.2.2.2.1.elim fun s e => ⟨x, hget e⟩
  · exact S.2.2.2.2.1.elim fun s e => ⟨s, (hne (by decide)).trans e⟩
  · exact S.2.2.2.2.2.1.elim fun s e => ⟨s, (hne (by decide)).trans e⟩
  · exact S.2.2.2.2.2.2.elim fun s e => ⟨s, (hne (by decide)).trans e⟩
theorem sc64 (h : mH) (f : Nat → Int64) : sc h (hBs h f) := by
  refine ⟨out.st h _ (by unfold SCR; decide), fun S => ⟨fun b n m => ?_, ?_, ?_, ?_, ?_, ?_, ?_⟩⟩
  · obtain ⟨f, e⟩ := S.1 b n m
    exact ⟨f, (hne (fun z => (tab_scb _ m).2.2.2.2.1 z.symm)).trans e⟩
  · exact S.2.1.elim fun s e => ⟨s, (hne (by decide)).trans e⟩
  · exact S.2.2.1.elim fun x e => e.elim fun y e => e.elim fun z e => ⟨x, y, z, (hne (by decide)).trans e⟩
  · exact S.2.2.2.1.elim fun s e => ⟨s, (hne (by decide)).trans e⟩
  · exact S.2.2.2.2.1.elim fun s e => ⟨f, hget e⟩
  · exact S.2.2.2.2.2.1.elim fun s e => ⟨s, (hne (by decide)).trans e⟩
  · exact S.2.2.2.2.2.2.elim fun s e => ⟨s, (hne (by decide)).trans e⟩
theorem sc_LA {h h' : mH} {a : Nat} {W : WD} (s : sc h h') (ha : a = 28 ∨ a = 35) (L : LA h a W) : LA h' a W := by
  have q : ∀ k, k < 5 → h'.1[a + k]? = h.1[a + k]? := fun k hk => sc_at s (by rcases ha with rfl | rfl <;> (unfold scb; rw [decide_eq_false_iff_not]; omega))
  rcases L with ⟨w, n, eb, X, us, K, F, E, D, l0, l1, l2, l3, l4, l5⟩ | ⟨w, us, l0⟩
  · exact .inl ⟨w, n, eb, X, us, K, F, E, D, (q 0 (by omega)).trans l0, (q 1 (by omega)).trans l1, (q 2 (by omega)).trans l2, (q 3 (by omega)).trans l3, (q 4 (by omega)).trans l4, l5⟩
  · exact .inr ⟨w, us, (q 0 (by omega)).trans l0⟩
theorem st_in {S n : Nat} (hS : S < 2 ^ n) {s : Nat} (h : S.testBit s = true) : s < n := by
  by_cases z : s < n
  · exact z
  · rw [Nat.testBit_lt_two_pow (Nat.lt_of_lt_of_le hS (Nat.pow_le_pow_right (by omega) (by omega)))] at h
    cases h
theorem pay_b {W : WD} (R : rng W) {n k : Nat} (hn : n ≤ 6) (hk : k ≤ 30) {c : Nat → Bool} {u : Nat → Nat} (h : vld n k (oW W) c u) : payM (oW W) u ≤ 594 := by
  have : payM (oW W) u ≤ sm (fun _ => 99) := sm_le (fun s hs => by
    unfold pv
    split
    · omega
    · rename_i z
      have q := h.1 s z
      exact (of_e R hs (by omega)).2)
  exact this
theorem bcA_b {W : WD} (R : rng W) {n k : Nat} (hn : n ≤ 6) (hk : k ≤ 30) (c : Nat → Bool) : bbd (bcA n (oW W) c k) n (887503681 * 594) := by
  intro T hT
  rcases bc_mx hn k hk T (fun s q => st_in hT q) with ⟨e, -⟩ | ⟨⟨u, hu, -, e⟩, -⟩
  · rw [e]; omega
  · have p := v_pos hk hu
    have q := pay_b R hn hk hu
    rw [← e]
    refine ⟨by omega, ?_⟩
    unfold vM
    omega
theorem bcS_none {n : Nat} {of : Nat → Nat → Nat} {k : Nat} (h : ∀ s, s < n → of s k = 0) (b : Nat → Int) (S : Nat) : bcS n of k b S = b S := by
  unfold bcS
  rw [lp_congr (g := fun _ x => x) (fun s x hs => by rw [if_pos (.inl (h s hs))])]
  clear h
  induction n with
  | zero => rfl
  | succ n ih => exact ih
/-- the market after a sale -/
def MK (h : mH) (n : Nat) (b : Nat → Int) : Prop := h.1[63]? = some (oMk (nI n)) ∧ ∃ f, h.1[64]? = some (aL 64 f) ∧ ∀ T, T < 2 ^ n → f T = lI (b T)
section SellC
variable {h : mH} {c a : Nat} {W : WD}
theorem sell_ev (O : mO) (d : Nat) (P : PLC O) (H : CA h c W) (hc : c < 20) (R : rng W) (S : SH h) (ha : a = 28 ∨ a = 35) (L : LA h a W) (hr : Int32) : ∃ h', ev O (d + 5) 59 0 [.ref 63, .ref c, .ref a, .int hr, mJ] [] h = some (.inl none, h') ∧ sc h h' ∧ MK h' (sN W) (bcA (sN W) (oW W) (fun p => sv W p hr) (pN W)) := by
  have hN := pN_le R
  have h6 : sN W ≤ 6 := R.1.2.2.2.1.2
  have p6 : 2 ^ sN W ≤ 64 := by rw [show 64 = 2 ^ 6 from rfl]; exact Nat.pow_le_pow_right (by omega) h6
  obtain ⟨s0, e63⟩ := S.2.2.2.1
  obtain ⟨f0, e64⟩ := S.2.2.2.2.1
  have e := lp_runJ (ν := mH) (F := fun k (_ : Nat → Int) v => ev O (d + 5) 59 28 [.ref 63, .ref c, .ref a, .int hr, .int (nI k)] [] v) (f := bcT (sN W) (oW W) (fun p => sv W p hr)) (n := pN W) (fun k b v => sc h v ∧ MK v (sN W) b ∧ b = bcA (sN W) (oW W) (fun p => sv W p hr) k) (fun k b v hk J => by
    obtain ⟨J1, ⟨J2, f, J3, J4⟩, J5⟩ := J
    have Hv := sc_CA J1 H hc
    have c1 : ¬ nI (pN W) ≤ nI k := nI_ge hk (by omega)
    have J5' : bcT (sN W) (oW W) (fun p => sv W p hr) k b = bcA (sN W) (oW W) (fun p => sv W p hr) (k + 1) := by rw [J5]; rfl
    rw [e_59_28]
    have ew := isWanted_ev O (d + 4) Hv R h6 J2 (show k < 30 by omega)
    cases q : fd (fun s => decide (oW W s k ≠ 0)) (sN W) with
    | none =>
      rw [q] at ew
      refine ⟨v, ⟨J1, ⟨J2, f, J3, fun T hT => ?_⟩, J5'⟩, ?_⟩
      · unfold bcT
        split
        · rw [bcS_none (fun s hs => by
            have := fd_none q s hs
            simpa using this), J4 T hT]
        · exact J4 T hT
      · simp only [e_59_0, e_59_1, e_59_2, e_59_5, e_59_8, e_59_9, e_59_12, e_59_15, e_59_18, e_59_19, e_59_22, e_59_23, e_59_24, e_59_25, e_59_26, e_59_30, e_59_31, e_59_34, e_59_37, e_59_38, e_59_39, e_59_41, e_59_44, e_59_47, e_59_48, e_59_49, e_59_51, e_59_52, e_59_55, e_59_58, e_59_59, e_59_60, e_59_62, e_59_65, e_59_68, e_59_71, Option.bind_some, Option.bind_none, m_kt, m_kn, Option.toList_some, Option.toList_none, List.nil_append, List.cons_append, List.append_nil, ltn, ite_not, ↓reduceIte, true_or, or_true, nP1, oI_s, oI_n, bI_f, bI_t, i1_0, i0_0, Bool.false_eq_true, not_true_eq_false, not_false_eq_true, gC2 Hv, c1, iMk J2, ew, Option.isSome_none]
    | some i =>
      rw [q] at ew
      obtain ⟨G1, S1, -, el⟩ := lets_ev O d Hv R hc ha (J1.2 S) (sc_LA J1 ha L) (show k < 30 by omega) hr
      have li : m_isc v a 2 = true := by
        rcases sc_LA J1 ha L with ⟨-, n, eb, -, us, K, F, E, D, l0, -⟩ | ⟨-, us, l0⟩
        · exact L_isc l0
        · exact L_isc l0
      have s1 := sc_hGS (h := v) ha G1 S1
      have k63 : (hGS v a G1 S1).1[63]? = some (oMk (nI (sN W))) := ((hne (by omega)).trans (hne (by omega))).trans J2
      have k64 : (hGS v a G1 S1).1[64]? = some (aL 64 f) := ((hne (by omega)).trans (hne (by omega))).trans J3
      cases t : sv W k hr
      · rw [t] at el
        refine ⟨hGS v a G1 S1, ⟨J1.tr s1, ⟨k63, f, k64, ?_⟩, J5'⟩, ?_⟩
        · unfold bcT
          have t' : ¬ (fun p => sv W p hr) k = true := by simp only [t]; decide
          rw [if_neg t']
          exact J4
        · simp only [e_59_0, e_59_1, e_59_2, e_59_5, e_59_8, e_59_9, e_59_12, e_59_15, e_59_18, e_59_19, e_59_22, e_59_23, e_59_24, e_59_25, e_59_26, e_59_30, e_59_31, e_59_34, e_59_37, e_59_38, e_59_39, e_59_41, e_59_44, e_59_47, e_59_48, e_59_49, e_59_51, e_59_52, e_59_55, e_59_58, e_59_59, e_59_60, e_59_62, e_59_65, e_59_68, e_59_71, Option.bind_some, Option.bind_none, m_kt, m_kn, Option.toList_some, Option.toList_none, List.nil_append, List.cons_append, List.append_nil, ltn, ite_not, ↓reduceIte, true_or, or_true, nP1, oI_s, oI_n, bI_f, bI_t, i1_0, i0_0, Bool.false_eq_true, not_true_eq_false, not_false_eq_true, gC2 Hv, c1, iMk J2, ew, Option.isSome_some, li, el]
      · rw [t] at el
        have hb := bcA_b R h6 (show k ≤ 30 by omega) (fun p => sv W p hr)
        rw [← J5] at hb
        obtain ⟨f', q4, ea⟩ := add_ev O (d + 4) P (sc_CA (J1.tr s1) H hc) hc R h6 k63 k64 (show k < 30 by omega) (by omega) hb f J4
        have hf : hBs (hGS v a G1 S1) f = hGS v a G1 S1 := by unfold hBs; rw [hset k64]
        rw [hf] at ea
        refine ⟨hBs (hGS v a G1 S1) f', ⟨(J1.tr s1).tr (sc64 _ _), ⟨(hne (by decide)).trans k63, f', hget k64, ?_⟩, J5'⟩, ?_⟩
        · unfold bcT
          have t' : (fun p => sv W p hr) k = true := t
          rw [if_pos t']
          exact q4
        · simp only [e_59_0, e_59_1, e_59_2, e_59_5, e_59_8, e_59_9, e_59_12, e_59_15, e_59_18, e_59_19, e_59_22, e_59_23, e_59_24, e_59_25, e_59_26, e_59_30, e_59_31, e_59_34, e_59_37, e_59_38, e_59_39, e_59_41, e_59_44, e_59_47, e_59_48, e_59_49, e_59_51, e_59_52, e_59_55, e_59_58, e_59_59, e_59_60, e_59_62, e_59_65, e_59_68, e_59_71, Option.bind_some, Option.bind_none, m_kt, m_kn, Option.toList_some, Option.toList_none, List.nil_append, List.cons_append, List.append_nil, ltn, ite_not, ↓reduceIte, true_or, or_true, nP1, oI_s, oI_n, bI_f, bI_t, i1_0, i0_0, Bool.false_eq_true, not_true_eq_false, not_false_eq_true, gC2 Hv, c1, iMk J2, ew, Option.isSome_some, li, el, iMk k63, ea]) (fun S => if S = 0 then 0 else -1) (hBs (h.1.set 63 (oMk (nI (sN W))), h.2) (vp_updL (fun j => if j < 64 then -1 else f0 j) 0 0)) ⟨(sc63 h _).tr (sc64 _ _), ⟨(hne (by decide)).trans (hget e63), _, hget (c := aL 64 f0) ((hne (by decide)).trans e64), fun T hT => (by
    unfold vp_updL
    by_cases z : T = 0
    · simp only [if_pos z]; rfl
    · simp only [if_neg z, if_pos (show T < 64 by omega)]; rfl)⟩, rfl⟩
  obtain ⟨h', ⟨q1, q2, q3⟩, e⟩ := e
  refine ⟨h', ?_, q1, q2⟩
  have k63 : ((h.1.set 63 (oMk (nI (sN W))), h.2) : mH).1[63]? = some (oMk (nI (sN W))) := hget e63
  have k64 : ((h.1.set 63 (oMk (nI (sN W))), h.2) : mH).1[64]? = some (aL 64 f0) := (hne (by decide)).trans e64
  have ef := fill_l O (d + 4) 64 64 (-1) f0 _ (by decide) k64
  have l63 : ∀ g, (hBs (h.1.set 63 (oMk (nI (sN W))), h.2) g).1[63]? = some (oMk (nI (sN W))) := fun g => (hne (by decide)).trans k63
  have s0 : ∀ g, m_sl (hBs (h.1.set 63 (oMk (nI (sN W))), h.2) g) 64 0 0 = some (hBs (h.1.set 63 (oMk (nI (sN W))), h.2) (vp_updL g 0 0)) := fun g => by
    have := sl_n (h := hBs (h.1.set 63 (oMk (nI (sN W))), h.2) g) (hget k64) (k := 0) (by decide) (by decide) 0
    rw [nI_0] at this
    rw [this]; unfold hBs; rw [List.set_set]
  have ef : ev O (d + 4) 261 0 [.ref 64, .long (-1), mJ, mJ, mJ] [] (h.1.set 63 (oMk (nI (sN W))), h.2) = some (.inl none, hBs (h.1.set 63 (oMk (nI (sN W))), h.2) (fun j => if j < 64 then -1 else f0 j)) := ef
  simp only [nI_0] at e
  simp only [e_59_0, e_59_1, e_59_2, e_59_5, e_59_8, e_59_9, e_59_12, e_59_15, e_59_18, e_59_19, e_59_22, e_59_23, e_59_24, e_59_25, e_59_26, e_59_30, e_59_31, e_59_34, e_59_37, e_59_38, e_59_39, e_59_41, e_59_44, e_59_47, e_59_48, e_59_49, e_59_51, e_59_52, e_59_55, e_59_58, e_59_59, e_59_60, e_59_62, e_59_65, e_59_68, e_59_71, Option.bind_some, Option.bind_none, m_kt, m_kn, Option.toList_some, Option.toList_none, List.nil_append, List.cons_append, List.append_nil, ltn, ite_not, ↓reduceIte, true_or, or_true, nP1, oI_s, oI_n, bI_f, bI_t, i1_0, i0_0, Bool.false_eq_true, not_true_eq_false, not_false_eq_true, gC14 H, rW5 R, pMk1 e63, gMk0 k63, ef, gMk0 (l63 _), s0]
  refine e.trans ?_
  rw [e_59_28]
  simp only [e_59_0, e_59_1, e_59_2, e_59_5, e_59_8, e_59_9, e_59_12, e_59_15, e_59_18, e_59_19, e_59_22, e_59_23, e_59_24, e_59_25, e_59_26, e_59_30, e_59_31, e_59_34, e_59_37, e_59_38, e_59_39, e_59_41, e_59_44, e_59_47, e_59_48, e_59_49, e_59_51, e_59_52, e_59_55, e_59_58, e_59_59, e_59_60, e_59_62, e_59_65, e_59_68, e_59_71, Option.bind_some, Option.bind_none, m_kt, m_kn, Option.toList_some, Option.toList_none, List.nil_append, List.cons_append, List.append_nil, ltn, ite_not, ↓reduceIte, true_or, or_true, nP1, oI_s, oI_n, bI_f, bI_t, i1_0, i0_0, Bool.false_eq_true, not_true_eq_false, not_false_eq_true, gC2 (sc_CA q1 H hc), Int32.le_refl]
end SellC
