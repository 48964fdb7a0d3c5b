/-! A night of frost -/
def fwS (s : Int32) : Int32 := 1103515245 * s + 12345
def drS (s : Int32) : Int32 := (s >>> ((16 : Int32) &&& 31)) &&& 32767
def rmS (x n : Int32) : Int32 := x - x / n * n
def fzH (n : Int32) (p : Nat) (V : WD) (s1 : Int32) : WD := upd V (7 + 6 * p + 1) (mx (V (7 + 6 * p + 1) - rmS (drS s1) n) (-40))
def fzF (n : Int32) : Nat → (WD × Int32 × Int32) → (WD × Int32 × Int32) := fun p st =>
  if riB (fzH n p st.1 (fwS st.2.1)) p = true then
    (if nI (chN (fzH n p st.1 (fwS st.2.1)) p) ≤ rmS (drS (fwS (fwS st.2.1))) 100 then (fzH n p st.1 (fwS st.2.1), fwS (fwS st.2.1), st.2.2)
    else (upd (fzH n p st.1 (fwS st.2.1)) (7 + 6 * p + 3) (fzH n p st.1 (fwS st.2.1) (7 + 6 * p + 3) + 1), fwS (fwS st.2.1), st.2.2 + 1))
  else (fzH n p st.1 (fwS st.2.1), fwS st.2.1, st.2.2)
theorem fzH_rng {V : WD} (R : rng V) {n p : Nat} (hn : 1 ≤ n) (hn6 : n ≤ 60) (hp : p < 30) (s : Int32) : rng (fzH (nI n) p V s) := by
  refine rng_pk R hp (k := 1) (by omega) ⟨by omega, fun _ => ?_, by omega, by omega, by omega, by omega⟩
  obtain ⟨j, hj, ej⟩ := pk_andE (s >>> ((16 : Int32) &&& 31)) (m := 32767) 15 (by decide)
  have h2 : (2 : Nat) ^ 15 = 32768 := by decide
  rw [h2] at hj
  have er : rmS (drS s) (nI n) = nI (j % n) := by
    unfold rmS drS
    rw [ej]
    exact pk_rem (by omega) (by omega) (by omega)
  have hh := (rP R hp).2.1
  have hm : j % n < n := Nat.mod_lt _ (by omega)
  rw [er]
  unfold bd at *
  have es : (V (7 + 6 * p + 1) - nI (j % n)).toInt = (V (7 + 6 * p + 1)).toInt - (j % n : Nat) := by
    rw [fb_subI (by rw [nI_toInt (by omega)]; omega) (by rw [nI_toInt (by omega)]; omega), nI_toInt (by omega)]
  have k40 : (-40 : Int32).toInt = -40 := by decide
  unfold mx
  split
  · rename_i c; rw [i_le, k40, es] at c; rw [es]; omega
  · rw [k40]; omega
theorem cr_c1 {V : WD} (R : rng V) {p : Nat} (hp : p < 30) (hb : brk V p = false) : rng (upd V (7 + 6 * p + 3) (V (7 + 6 * p + 3) + 1)) := by
  refine rng_pk R hp (k := 3) (by omega) ⟨by omega, by omega, by omega, fun _ => ?_, by omega, by omega⟩
  have c := (rP R hp).2.2.2.1
  unfold bd at *
  have k3 : (3 : Int32).toInt = 3 := by decide
  have k1 : (1 : Int32).toInt = 1 := by decide
  have : (V (7 + 6 * p + 3)).toInt ≠ 3 := fun y => by
    have := of_decide_eq_false hb
    exact this (Int32.toInt_inj.mp (by rw [y, k3]))
  rw [fb_addI (by omega) (by omega), k1]
  omega
theorem ri_brk {V : WD} {p : Nat} (h : riB V p = true) : brk V p = false := by
  unfold riB at h
  rw [Bool.and_eq_true, Bool.not_eq_true', Bool.not_eq_true'] at h
  exact h.2
theorem fz_rng {st : WD × Int32 × Int32} (R : rng st.1) {n p : Nat} (hn : 1 ≤ n) (hn6 : n ≤ 60) (hp : p < 30) : rng (fzF (nI n) p st).1 := by
  have R1 := fzH_rng R hn hn6 hp (fwS st.2.1)
  unfold fzF
  split
  · rename_i c
    split
    · exact R1
    · exact cr_c1 R1 hp (ri_brk c)
  · exact R1
theorem fz_o {st : WD × Int32 × Int32} {n : Int32} {p i : Nat} (hi : i ≠ 7 + 6 * p + 1) (h3 : i ≠ 7 + 6 * p + 3) : (fzF n p st).1 i = st.1 i := by
  have e : fzH n p st.1 (fwS st.2.1) i = st.1 i := pk_un hi
  unfold fzF
  split
  · split
    · exact e
    · exact (pk_un h3).trans e
  · exact e
theorem fzL_o {n : Int32} {i : Nat} (st : WD × Int32 × Int32) : ∀ k, (∀ p, p < k → i ≠ 7 + 6 * p + 1 ∧ i ≠ 7 + 6 * p + 3) → (lp (fzF n) k st).1 i = st.1 i
  | 0, _ => rfl
  | k + 1, h => by
    rw [lp_s, fz_o (h k (by omega)).1 (h k (by omega)).2]
    exact fzL_o st k (fun p hp => h p (by omega))
section FrostC
variable {h : mH} {a : Nat} {W : WD}
theorem freeze_ev (O : mO) (d : Nat) (H : CA h a W) (R : rng W) (s : Int32) {n : Nat} (hn : 1 ≤ n) (hn6 : n ≤ 60) : ∃ h', ev O (d + 1) 29 0 [.ref a, .int s, .int (nI n), mJ, mJ, mJ] [] h = some (.inl (some (.int ((lp (fzF (nI n)) (pN W) (W, s, 0)).2.2))), h') ∧ CA h' a (lp (fzF (nI n)) (pN W) (W, s, 0)).1 ∧ out (CB a) h h' := by
  have hN := pN_le R
  have nz : ¬ nI n = 0 := nI_ne0 (by omega) (by omega)
  have n1 : (1 : Int32) ≤ nI n := nI_le (a := 1) hn (by omega)
  have e := lp_runJ (ν := mH) (F := fun i (st : WD × Int32 × Int32) hh => ev O (d + 1) 29 15 [.ref a, .int s, .int (nI n), .int st.2.1, .int st.2.2, .int (nI i)] [] hh) (f := fzF (nI n)) (n := pN W) (fun i st hh => CA hh a st.1 ∧ rng st.1 ∧ out (CB a) h hh ∧ ∀ j, j < 7 → st.1 j = W j) (fun i st hh hi J => by
    obtain ⟨V, t, c⟩ := st
    obtain ⟨J1, J2, J3, J4⟩ := J
    simp only at J1 J2 J3 J4
    have h1 : ¬ nI (pN W) ≤ nI i := nI_ge hi (by omega)
    have hi3 : i < 30 := by omega
    have pV : pN V = pN W := by unfold pN wN gN; rw [J4 0 (by omega), J4 1 (by omega)]
    have gc2 : m_gf hh a 0 2 = some (.int (nI (pN W))) := by rw [gC2 J1, pV]
    have fo : ∀ t, ev O (d) 30 0 [.int t] [] hh = some (.inl (some (.int (fwS t))), hh) := fun t => by simp only [e_30_0, e_30_2, e_30_3, e_30_4, e_30_7, e_30_8]; rfl
    have dw : ∀ t, ev O (d) 31 0 [.int t] [] hh = some (.inl (some (.int (drS t))), hh) := fun t => by simp only [e_31_0, e_31_1, e_31_3, e_31_4, e_31_7, e_31_8]; rfl
    have hx : (if -40 ≤ V (7 + 6 * i + 1) - (drS (fwS t) - drS (fwS t) / nI n * nI n) then V (7 + 6 * i + 1) - (drS (fwS t) - drS (fwS t) / nI n * nI n) else -40) = mx (V (7 + 6 * i + 1) - rmS (drS (fwS t)) (nI n)) (-40) := rfl
    obtain ⟨h2, e2, H2, F2⟩ := CA_set J1 J2 hi3 (k := 1) (by omega) (mx (V (7 + 6 * i + 1) - rmS (drS (fwS t)) (nI n)) (-40))
    have e2 : m_si hh (a + 2) (nI i) (mx (V (7 + 6 * i + 1) - rmS (drS (fwS t)) (nI n)) (-40)) = some h2 := e2
    have H2 : CA h2 a (fzH (nI n) i V (fwS t)) := H2
    have R2 : rng (fzH (nI n) i V (fwS t)) := fzH_rng J2 hn hn6 hi3 (fwS t)
    have fo2 : ∀ t, ev O (d) 30 0 [.int t] [] h2 = some (.inl (some (.int (fwS t))), h2) := fun t => by simp only [e_30_0, e_30_2, e_30_3, e_30_4, e_30_7, e_30_8]; rfl
    have dw2 : ∀ t, ev O (d) 31 0 [.int t] [] h2 = some (.inl (some (.int (drS t))), h2) := fun t => by simp only [e_31_0, e_31_1, e_31_3, e_31_4, e_31_7, e_31_8]; rfl
    have w7 : ∀ j, j < 7 → (fzF (nI n) i (V, t, c)).1 j = W j := fun j hj => (fz_o (by omega) (by omega)).trans (J4 j hj)
    have RR : rng (fzF (nI n) i (V, t, c)).1 := fz_rng (st := (V, t, c)) J2 hn hn6 hi3
    have rm2 : drS (fwS (fwS t)) - drS (fwS (fwS t)) / 100 * 100 = rmS (drS (fwS (fwS t))) 100 := rfl
    unfold fzF at *
    simp only at w7 RR ⊢
    rw [e_29_15]
    cases cr : riB (fzH (nI n) i V (fwS t)) i
    · refine ⟨h2, ⟨H2, R2, J3.tr1 F2, ?_⟩, ?_⟩
      · rw [cr] at w7; exact w7
      · simp only [e_29_0, e_29_1, e_29_2, e_29_5, e_29_6, e_29_7, e_29_8, e_29_9, e_29_10, e_29_12, e_29_13, e_29_17, e_29_18, e_29_21, e_29_24, e_29_25, e_29_28, e_29_29, e_29_30, e_29_33, e_29_35, e_29_36, e_29_39, e_29_41, e_29_42, e_29_43, e_29_46, e_29_47, e_29_48, e_29_49, e_29_51, e_29_54, e_29_55, e_29_56, e_29_58, e_29_61, e_29_64, e_29_67, e_29_68, e_29_71, e_29_72, e_29_73, e_29_76, e_29_78, e_29_79, e_29_80, e_29_82, e_29_85, e_29_88, e_29_89, e_29_92, e_29_94, e_29_95, e_29_96, e_29_97, e_29_98, e_29_99, e_29_102, e_29_105, e_29_108, e_29_110, Option.bind_some, Option.bind_none, m_kt, m_kn, Option.toList_some, Option.toList_none, List.nil_append, List.cons_append, List.append_nil, ltn, ite_not, ↓reduceIte, true_or, or_true, nP1, oI_s, oI_n, bI_f, bI_t, i1_0, i0_0, Bool.false_eq_true, not_true_eq_false, not_false_eq_true, gc2, h1, fo, dw, gC7 J1, J1.t1 hi3, nz, hx, e2, isAtRisk_ev O d H2 R2 hi3, cr]
    · by_cases cc : nI (chN (fzH (nI n) i V (fwS t)) i) ≤ rmS (drS (fwS (fwS t))) 100
      · refine ⟨h2, ⟨?_, ?_, J3.tr1 F2, ?_⟩, ?_⟩
        · simp only [cc, ↓reduceIte]; exact H2
        · simp only [cc, ↓reduceIte]; exact R2
        · rw [cr] at w7; exact w7
        · simp only [e_29_0, e_29_1, e_29_2, e_29_5, e_29_6, e_29_7, e_29_8, e_29_9, e_29_10, e_29_12, e_29_13, e_29_17, e_29_18, e_29_21, e_29_24, e_29_25, e_29_28, e_29_29, e_29_30, e_29_33, e_29_35, e_29_36, e_29_39, e_29_41, e_29_42, e_29_43, e_29_46, e_29_47, e_29_48, e_29_49, e_29_51, e_29_54, e_29_55, e_29_56, e_29_58, e_29_61, e_29_64, e_29_67, e_29_68, e_29_71, e_29_72, e_29_73, e_29_76, e_29_78, e_29_79, e_29_80, e_29_82, e_29_85, e_29_88, e_29_89, e_29_92, e_29_94, e_29_95, e_29_96, e_29_97, e_29_98, e_29_99, e_29_102, e_29_105, e_29_108, e_29_110, Option.bind_some, Option.bind_none, m_kt, m_kn, Option.toList_some, Option.toList_none, List.nil_append, List.cons_append, List.append_nil, ltn, ite_not, ↓reduceIte, true_or, or_true, nP1, oI_s, oI_n, bI_f, bI_t, i1_0, i0_0, Bool.false_eq_true, not_true_eq_false, not_false_eq_true, gc2, h1, fo, dw, gC7 J1, J1.t1 hi3, nz, hx, e2, isAtRisk_ev O d H2 R2 hi3, cr, fo2, dw2, z100, rm2, chance_ev O d H2 R2 hi3, cc]
      · obtain ⟨h3, e3, H3, F3⟩ := CA_set H2 R2 hi3 (k := 3) (by omega) (fzH (nI n) i V (fwS t) (7 + 6 * i + 3) + 1)
        have e3 : m_si h2 (a + 4) (nI i) (fzH (nI n) i V (fwS t) (7 + 6 * i + 3) + 1) = some h3 := e3
        refine ⟨h3, ⟨?_, ?_, (J3.tr1 F2).tr1 F3, ?_⟩, ?_⟩
        · simp only [cc, ↓reduceIte]; exact H3
        · rw [cr] at RR; exact RR
        · rw [cr] at w7; exact w7
        · simp only [e_29_0, e_29_1, e_29_2, e_29_5, e_29_6, e_29_7, e_29_8, e_29_9, e_29_10, e_29_12, e_29_13, e_29_17, e_29_18, e_29_21, e_29_24, e_29_25, e_29_28, e_29_29, e_29_30, e_29_33, e_29_35, e_29_36, e_29_39, e_29_41, e_29_42, e_29_43, e_29_46, e_29_47, e_29_48, e_29_49, e_29_51, e_29_54, e_29_55, e_29_56, e_29_58, e_29_61, e_29_64, e_29_67, e_29_68, e_29_71, e_29_72, e_29_73, e_29_76, e_29_78, e_29_79, e_29_80, e_29_82, e_29_85, e_29_88, e_29_89, e_29_92, e_29_94, e_29_95, e_29_96, e_29_97, e_29_98, e_29_99, e_29_102, e_29_105, e_29_108, e_29_110, Option.bind_some, Option.bind_none, m_kt, m_kn, Option.toList_some, Option.toList_none, List.nil_append, List.cons_append, List.append_nil, ltn, ite_not, ↓reduceIte, true_or, or_true, nP1, oI_s, oI_n, bI_f, bI_t, i1_0, i0_0, Bool.false_eq_true, not_true_eq_false, not_false_eq_true, gc2, h1, fo, dw, gC7 J1, J1.t1 hi3, nz, hx, e2, isAtRisk_ev O d H2 R2 hi3, cr, fo2, dw2, z100, rm2, chance_ev O d H2 R2 hi3, cc, gC9 H2, H2.t3 hi3, e3]) (W, s, 0) h ⟨H, R, out.rf _ h, fun _ _ => rfl⟩
  obtain ⟨h', J, e⟩ := e
  obtain ⟨J1, J2, J3, J4⟩ := J
  have pV : pN (lp (fzF (nI n)) (pN W) (W, s, 0)).1 = pN W := by
    have a0 := J4 0 (by omega)
    have a1 := J4 1 (by omega)
    show wN _ * gN _ = wN W * gN W
    unfold wN gN
    unfold pN wN gN at a0 a1
    rw [show (lp (fzF (nI n)) (pN W) (W, s, 0)).1 0 = W 0 from J4 0 (by omega), show (lp (fzF (nI n)) (pN W) (W, s, 0)).1 1 = W 1 from J4 1 (by omega)]
  have gc2 : m_gf h' a 0 2 = some (.int (nI (pN W))) := by rw [gC2 J1, pV]
  simp only [nI_0] at e
  refine ⟨h', ?_, J1, J3⟩
  simp only [e_29_0, e_29_1, e_29_2, e_29_5, e_29_6, e_29_7, e_29_8, e_29_9, e_29_10, e_29_12, e_29_13, e_29_17, e_29_18, e_29_21, e_29_24, e_29_25, e_29_28, e_29_29, e_29_30, e_29_33, e_29_35, e_29_36, e_29_39, e_29_41, e_29_42, e_29_43, e_29_46, e_29_47, e_29_48, e_29_49, e_29_51, e_29_54, e_29_55, e_29_56, e_29_58, e_29_61, e_29_64, e_29_67, e_29_68, e_29_71, e_29_72, e_29_73, e_29_76, e_29_78, e_29_79, e_29_80, e_29_82, e_29_85, e_29_88, e_29_89, e_29_92, e_29_94, e_29_95, e_29_96, e_29_97, e_29_98, e_29_99, e_29_102, e_29_105, e_29_108, e_29_110, Option.bind_some, Option.bind_none, m_kt, m_kn, Option.toList_some, Option.toList_none, List.nil_append, List.cons_append, List.append_nil, ltn, ite_not, ↓reduceIte, true_or, or_true, nP1, oI_s, oI_n, bI_f, bI_t, i1_0, i0_0, Bool.false_eq_true, not_true_eq_false, not_false_eq_true, n1]
  refine e.trans ?_
  rw [e_29_15]
  simp only [e_29_0, e_29_1, e_29_2, e_29_5, e_29_6, e_29_7, e_29_8, e_29_9, e_29_10, e_29_12, e_29_13, e_29_17, e_29_18, e_29_21, e_29_24, e_29_25, e_29_28, e_29_29, e_29_30, e_29_33, e_29_35, e_29_36, e_29_39, e_29_41, e_29_42, e_29_43, e_29_46, e_29_47, e_29_48, e_29_49, e_29_51, e_29_54, e_29_55, e_29_56, e_29_58, e_29_61, e_29_64, e_29_67, e_29_68, e_29_71, e_29_72, e_29_73, e_29_76, e_29_78, e_29_79, e_29_80, e_29_82, e_29_85, e_29_88, e_29_89, e_29_92, e_29_94, e_29_95, e_29_96, e_29_97, e_29_98, e_29_99, e_29_102, e_29_105, e_29_108, e_29_110, Option.bind_some, Option.bind_none, m_kt, m_kn, Option.toList_some, Option.toList_none, List.nil_append, List.cons_append, List.append_nil, ltn, ite_not, ↓reduceIte, true_or, or_true, nP1, oI_s, oI_n, bI_f, bI_t, i1_0, i0_0, Bool.false_eq_true, not_true_eq_false, not_false_eq_true, gc2, Int32.le_refl]
end FrostC
def froW (W : WD) (x y : Int32) : WD := (lp (fzF y) (pN W) (W, x, 0)).1
def froV (W : WD) (x y : Int32) : Int32 := (lp (fzF y) (pN W) (W, x, 0)).2.2
theorem inB1_60 {y : Int32} (h : inB y 1 60 = true) : ∃ f, 1 ≤ f ∧ f ≤ 60 ∧ y = nI f := by
  have b := inB_bd h
  obtain ⟨c, e⟩ := bd_nI b (by decide)
  unfold bd at b
  rw [show (1 : Int32).toInt = 1 from by decide, show (60 : Int32).toInt = 60 from by decide] at b
  exact ⟨_, by omega, by omega, c⟩
theorem Gfrost_ev {h : mH} {g : gT} {W : WD} {q l : Nat} {A B C' : Nat → Int32} (O : mO) (d : Nat) (C : CG h g W) (P : PC h q l A B C') (hq : q ≤ 12) (hl : l < 12) (x y : Int32) : GP (ev O (d + 2) 131 0 [.ref 0, .int x, .int y] [] h) h g.1 W (froW W x y) q l A B C' (if codeIn y 1 60 = 1 then some 0 else none) (.int (froV W x y)) := by
  have C0 := C
  obtain ⟨G, H, ga, R, S⟩ := C
  unfold codeIn
  cases a1 : inB y 1 60
  · simp only [Bool.false_eq_true, ↓reduceIte]
    show _ = _
    simp only [e_131_0, e_131_1, e_131_2, e_131_4, e_131_7, e_131_8, e_131_11, e_131_12, e_131_15, e_131_18, e_131_19, e_131_22, e_131_23, e_131_24, e_131_27, Option.bind_some, Option.bind_none, m_kt, m_kn, Option.toList_some, Option.toList_none, List.nil_append, List.cons_append, List.append_nil, ltn, ite_not, ↓reduceIte, true_or, or_true, nP1, oI_s, oI_n, bI_f, bI_t, i1_0, i0_0, Bool.false_eq_true, not_true_eq_false, not_false_eq_true, iscG G, checkPane_ev O _ G H R, checkHour_ev, checkWithin_ev, checkOwner_ev, checkSeer_ev O _ G H R, gG0 G, H.isc, Bool.false_eq_true, a1]
  · have b1 := a1
    obtain ⟨n, n1, n6, rfl⟩ := inB1_60 a1
    simp only [↓reduceIte, Nat.zero_ne_one]
    obtain ⟨h1, A1, B1, C1, e1, F1, K1, P1, s1, s2, s3⟩ := rem_CG O (d + 1) C0 P hq hl
    obtain ⟨h3, e3, H3, F3⟩ := freeze_ev O d K1.2.1 R x n1 n6
    refine ⟨h3, A1, B1, C1, ?_, (F1.mo (fun b hb => .inr (.inl hb))).tr1 (F3.mo (fun b hb => .inl hb)), H3, SH_out F3 (fun b hb => CB_scb ga hb) K1.2.2.2.2, PC_o P1 F3 (fun b hb z => by unfold CB at hb; unfold PS at z; omega), s1, s2, s3⟩
    simp only [e_131_0, e_131_1, e_131_2, e_131_4, e_131_7, e_131_8, e_131_11, e_131_12, e_131_15, e_131_18, e_131_19, e_131_22, e_131_23, e_131_24, e_131_27, Option.bind_some, Option.bind_none, m_kt, m_kn, Option.toList_some, Option.toList_none, List.nil_append, List.cons_append, List.append_nil, ltn, ite_not, ↓reduceIte, true_or, or_true, nP1, oI_s, oI_n, bI_f, bI_t, i1_0, i0_0, Bool.false_eq_true, not_true_eq_false, not_false_eq_true, iscG G, checkPane_ev O _ G H R, checkHour_ev, checkWithin_ev, checkOwner_ev, checkSeer_ev O _ G H R, gG0 G, H.isc, Bool.false_eq_true, b1, gG7 G, P_isc P, e1, gG0 K1.1, e3]
    rfl
theorem cr_one {V : WD} {p : Nat} (hN : pN V ≤ 30) (hp : p < pN V) : crW V (shl1 p) = upd V (7 + 6 * p + 3) (V (7 + 6 * p + 3) + 1) := by
  funext i
  unfold crW
  by_cases c : ∃ r, r < pN V ∧ i = 7 + 6 * r + 3
  · obtain ⟨r, hr, rfl⟩ := c
    rw [cr_c, if_pos hr, bt_shl1 (by omega) (by omega)]
    by_cases z : r = p
    · subst z; rw [pk_us]; simp [bI]
    · rw [pk_un (by omega)]; simp [z, bI]
  · rw [cr_o V _ (fun r hr q => c ⟨r, hr, q⟩), pk_un (fun q => c ⟨p, hp, q⟩)]
section FrostM
variable {h : mH} {m : Nat → Int32} {W : WD} {q : Nat} {U : Nat → Int32}
theorem mfz_loop (O : mO) (d : Nat) (H : MS h m W) (R : rng W) (s : Int32) {n : Nat} (hn : 1 ≤ n) (hn6 : n ≤ 60) : ev O (d + 2) 239 42 [.ref 66, .int s, .int (nI n), .int s, .int 0, .int 0] [] h = some (.inl (some (.int (froV W s (nI n)))), hT h (froW W s (nI n))) := by
  have hN := pN_le R
  have nz : ¬ nI n = 0 := nI_ne0 (by omega) (by omega)
  have e := lp_runI (fun i (st : WD × Int32 × Int32) => rng st.1 ∧ ∀ j, j < 7 → st.1 j = W j) (F := fun i (st : WD × Int32 × Int32) => ev O (d + 2) 239 42 [.ref 66, .int s, .int (nI n), .int st.2.1, .int st.2.2, .int (nI i)] [] (hT h st.1)) (f := fzF (nI n)) (n := pN W) (s := (W, s, 0)) ⟨R, fun _ _ => rfl⟩ (fun i st hi J => by
    obtain ⟨V, t, c⟩ := st
    obtain ⟨J2, J4⟩ := J
    simp only at J2 J4
    have h1 : ¬ nI (pN W) ≤ nI i := nI_ge hi (by omega)
    have hi3 : i < 30 := by omega
    have pV : pN V = pN W := by unfold pN wN gN; rw [J4 0 (by omega), J4 1 (by omega)]
    have HV := H.hT V
    have pe := panes_ev O (d + 1) HV.w J2
    rw [pV] at pe
    have hx : (if V (7 + 6 * i + 1) - ((fwS t >>> ((16 : Int32) &&& 31) &&& 32767) - (fwS t >>> ((16 : Int32) &&& 31) &&& 32767) / nI n * nI n) ≤ -40 then -40 else V (7 + 6 * i + 1) - ((fwS t >>> ((16 : Int32) &&& 31) &&& 32767) - (fwS t >>> ((16 : Int32) &&& 31) &&& 32767) / nI n * nI n)) = mx (V (7 + 6 * i + 1) - rmS (drS (fwS t)) (nI n)) (-40) := by
      rw [mx_c]; rfl
    have se := sets_ev O (d + 1) HV hi3 (k := 1) (by omega) (mx (V (7 + 6 * i + 1) - rmS (drS (fwS t)) (nI n)) (-40))
    rw [hT_hT] at se
    have se : ev O (d + 1) 159 0 [.ref 66, .int (nI i), .int 1, .int (mx (V (7 + 6 * i + 1) - rmS (drS (fwS t)) (nI n)) (-40))] [] (hT h V) = some (.inl none, hT h (fzH (nI n) i V (fwS t))) := se
    have H2 := H.hT (fzH (nI n) i V (fwS t))
    have R2 : rng (fzH (nI n) i V (fwS t)) := fzH_rng J2 hn hn6 hi3 (fwS t)
    have w7 : ∀ j, j < 7 → (fzF (nI n) i (V, t, c)).1 j = W j := fun j hj => (fz_o (by omega) (by omega)).trans (J4 j hj)
    have p2 : pN (fzH (nI n) i V (fwS t)) = pN W := by
      have : ∀ j, j < 7 → fzH (nI n) i V (fwS t) j = W j := fun j hj => (pk_un (by omega)).trans (J4 j hj)
      unfold pN wN gN; rw [this 0 (by omega), this 1 (by omega)]
    have RR : rng (fzF (nI n) i (V, t, c)).1 := fz_rng (st := (V, t, c)) J2 hn hn6 hi3
    have ce := cracks_ev O d H2 R2 (shl1 i)
    rw [cr_one (by rw [p2]; exact hN) (by rw [p2]; exact hi), hT_hT] at ce
    have rm2 : (fwS (fwS t) >>> ((16 : Int32) &&& 31) &&& 32767) - (fwS (fwS t) >>> ((16 : Int32) &&& 31) &&& 32767) / 100 * 100 = rmS (drS (fwS (fwS t))) 100 := rfl
    have f1 : 1103515245 * t + 12345 = fwS t := rfl
    have f2 : 1103515245 * fwS t + 12345 = fwS (fwS t) := rfl
    refine ⟨⟨RR, w7⟩, ?_⟩
    unfold fzF
    simp only
    rw [e_239_42]
    unfold riB
    by_cases c1 : 0 ≤ fzH (nI n) i V (fwS t) (7 + 6 * i + 1)
    · simp only [e_239_0, e_239_1, e_239_2, e_239_5, e_239_6, e_239_7, e_239_8, e_239_10, e_239_13, e_239_16, e_239_17, e_239_20, e_239_21, e_239_22, e_239_25, e_239_28, e_239_29, e_239_30, e_239_31, e_239_34, e_239_35, e_239_36, e_239_37, e_239_39, e_239_40, e_239_44, e_239_45, e_239_48, e_239_51, e_239_54, e_239_55, e_239_56, e_239_59, e_239_60, e_239_61, e_239_62, e_239_64, e_239_65, e_239_67, e_239_68, e_239_70, e_239_71, e_239_74, e_239_75, e_239_77, e_239_78, e_239_81, e_239_82, e_239_83, e_239_84, e_239_85, e_239_88, e_239_91, e_239_92, e_239_94, e_239_95, e_239_98, e_239_101, e_239_102, e_239_104, e_239_107, e_239_110, e_239_113, e_239_116, e_239_117, e_239_118, e_239_121, e_239_122, e_239_123, e_239_124, e_239_126, e_239_127, e_239_130, e_239_131, e_239_133, e_239_134, e_239_135, e_239_137, e_239_140, e_239_143, e_239_146, e_239_147, e_239_148, e_239_150, e_239_151, e_239_154, e_239_157, e_239_160, e_239_163, e_239_165, Option.bind_some, Option.bind_none, m_kt, m_kn, Option.toList_some, Option.toList_none, List.nil_append, List.cons_append, List.append_nil, ltn, ite_not, ↓reduceIte, true_or, or_true, nP1, oI_s, oI_n, bI_f, bI_t, i1_0, i0_0, Bool.false_eq_true, not_true_eq_false, not_false_eq_true, HV.isc, pe, h1, of1_ev O (d + 1) HV.w hi3, nz, hx, se, H2.isc, of1_ev O (d + 1) H2.w hi3, c1, f1, decide_true, Bool.not_true, Bool.false_and]
    · cases c2 : brk (fzH (nI n) i V (fwS t)) i
      · by_cases cc : nI (chN (fzH (nI n) i V (fwS t)) i) ≤ rmS (drS (fwS (fwS t))) 100
        · simp only [e_239_0, e_239_1, e_239_2, e_239_5, e_239_6, e_239_7, e_239_8, e_239_10, e_239_13, e_239_16, e_239_17, e_239_20, e_239_21, e_239_22, e_239_25, e_239_28, e_239_29, e_239_30, e_239_31, e_239_34, e_239_35, e_239_36, e_239_37, e_239_39, e_239_40, e_239_44, e_239_45, e_239_48, e_239_51, e_239_54, e_239_55, e_239_56, e_239_59, e_239_60, e_239_61, e_239_62, e_239_64, e_239_65, e_239_67, e_239_68, e_239_70, e_239_71, e_239_74, e_239_75, e_239_77, e_239_78, e_239_81, e_239_82, e_239_83, e_239_84, e_239_85, e_239_88, e_239_91, e_239_92, e_239_94, e_239_95, e_239_98, e_239_101, e_239_102, e_239_104, e_239_107, e_239_110, e_239_113, e_239_116, e_239_117, e_239_118, e_239_121, e_239_122, e_239_123, e_239_124, e_239_126, e_239_127, e_239_130, e_239_131, e_239_133, e_239_134, e_239_135, e_239_137, e_239_140, e_239_143, e_239_146, e_239_147, e_239_148, e_239_150, e_239_151, e_239_154, e_239_157, e_239_160, e_239_163, e_239_165, Option.bind_some, Option.bind_none, m_kt, m_kn, Option.toList_some, Option.toList_none, List.nil_append, List.cons_append, List.append_nil, ltn, ite_not, ↓reduceIte, true_or, or_true, nP1, oI_s, oI_n, bI_f, bI_t, i1_0, i0_0, Bool.false_eq_true, not_true_eq_false, not_false_eq_true, HV.isc, pe, h1, of1_ev O (d + 1) HV.w hi3, nz, hx, se, H2.isc, of1_ev O (d + 1) H2.w hi3, c1, isBr_ev O d H2.w hi3, c2, f1, z100, rm2, mchance_ev O d H2.w R2 hi3, cc, f2, decide_false, Bool.not_false, Bool.and_self, Bool.and_true]
        · simp only [e_239_0, e_239_1, e_239_2, e_239_5, e_239_6, e_239_7, e_239_8, e_239_10, e_239_13, e_239_16, e_239_17, e_239_20, e_239_21, e_239_22, e_239_25, e_239_28, e_239_29, e_239_30, e_239_31, e_239_34, e_239_35, e_239_36, e_239_37, e_239_39, e_239_40, e_239_44, e_239_45, e_239_48, e_239_51, e_239_54, e_239_55, e_239_56, e_239_59, e_239_60, e_239_61, e_239_62, e_239_64, e_239_65, e_239_67, e_239_68, e_239_70, e_239_71, e_239_74, e_239_75, e_239_77, e_239_78, e_239_81, e_239_82, e_239_83, e_239_84, e_239_85, e_239_88, e_239_91, e_239_92, e_239_94, e_239_95, e_239_98, e_239_101, e_239_102, e_239_104, e_239_107, e_239_110, e_239_113, e_239_116, e_239_117, e_239_118, e_239_121, e_239_122, e_239_123, e_239_124, e_239_126, e_239_127, e_239_130, e_239_131, e_239_133, e_239_134, e_239_135, e_239_137, e_239_140, e_239_143, e_239_146, e_239_147, e_239_148, e_239_150, e_239_151, e_239_154, e_239_157, e_239_160, e_239_163, e_239_165, Option.bind_some, Option.bind_none, m_kt, m_kn, Option.toList_some, Option.toList_none, List.nil_append, List.cons_append, List.append_nil, ltn, ite_not, ↓reduceIte, true_or, or_true, nP1, oI_s, oI_n, bI_f, bI_t, i1_0, i0_0, Bool.false_eq_true, not_true_eq_false, not_false_eq_true, HV.isc, pe, h1, of1_ev O (d + 1) HV.w hi3, nz, hx, se, H2.isc, of1_ev O (d + 1) H2.w hi3, c1, isBr_ev O d H2.w hi3, c2, f1, z100, rm2, mchance_ev O d H2.w R2 hi3, cc, f2, decide_false, Bool.not_false, Bool.and_self, Bool.and_true, shl_nI, ce]
      · simp only [e_239_0, e_239_1, e_239_2, e_239_5, e_239_6, e_239_7, e_239_8, e_239_10, e_239_13, e_239_16, e_239_17, e_239_20, e_239_21, e_239_22, e_239_25, e_239_28, e_239_29, e_239_30, e_239_31, e_239_34, e_239_35, e_239_36, e_239_37, e_239_39, e_239_40, e_239_44, e_239_45, e_239_48, e_239_51, e_239_54, e_239_55, e_239_56, e_239_59, e_239_60, e_239_61, e_239_62, e_239_64, e_239_65, e_239_67, e_239_68, e_239_70, e_239_71, e_239_74, e_239_75, e_239_77, e_239_78, e_239_81, e_239_82, e_239_83, e_239_84, e_239_85, e_239_88, e_239_91, e_239_92, e_239_94, e_239_95, e_239_98, e_239_101, e_239_102, e_239_104, e_239_107, e_239_110, e_239_113, e_239_116, e_239_117, e_239_118, e_239_121, e_239_122, e_239_123, e_239_124, e_239_126, e_239_127, e_239_130, e_239_131, e_239_133, e_239_134, e_239_135, e_239_137, e_239_140, e_239_143, e_239_146, e_239_147, e_239_148, e_239_150, e_239_151, e_239_154, e_239_157, e_239_160, e_239_163, e_239_165, Option.bind_some, Option.bind_none, m_kt, m_kn, Option.toList_some, Option.toList_none, List.nil_append, List.cons_append, List.append_nil, ltn, ite_not, ↓reduceIte, true_or, or_true, nP1, oI_s, oI_n, bI_f, bI_t, i1_0, i0_0, Bool.false_eq_true, not_true_eq_false, not_false_eq_true, HV.isc, pe, h1, of1_ev O (d + 1) HV.w hi3, nz, hx, se, H2.isc, of1_ev O (d + 1) H2.w hi3, c1, isBr_ev O d H2.w hi3, c2, f1, decide_false, Bool.not_false, Bool.not_true, Bool.and_false])
  obtain ⟨⟨J2, J4⟩, e⟩ := e
  have h00 : hT h W = h := by unfold hT; rw [hset H.2]
  have HV := H.hT (lp (fzF (nI n)) (pN W) (W, s, 0)).1
  have pe := panes_ev O (d + 1) HV.w J2
  have pV : pN (lp (fzF (nI n)) (pN W) (W, s, 0)).1 = pN W := by
    show wN _ * gN _ = wN W * gN W
    unfold wN gN
    rw [show (lp (fzF (nI n)) (pN W) (W, s, 0)).1 0 = W 0 from J4 0 (by omega), show (lp (fzF (nI n)) (pN W) (W, s, 0)).1 1 = W 1 from J4 1 (by omega)]
  rw [pV] at pe
  simp only [nI_0, h00] at e
  refine e.trans ?_
  rw [e_239_42]
  simp only [e_239_0, e_239_1, e_239_2, e_239_5, e_239_6, e_239_7, e_239_8, e_239_10, e_239_13, e_239_16, e_239_17, e_239_20, e_239_21, e_239_22, e_239_25, e_239_28, e_239_29, e_239_30, e_239_31, e_239_34, e_239_35, e_239_36, e_239_37, e_239_39, e_239_40, e_239_44, e_239_45, e_239_48, e_239_51, e_239_54, e_239_55, e_239_56, e_239_59, e_239_60, e_239_61, e_239_62, e_239_64, e_239_65, e_239_67, e_239_68, e_239_70, e_239_71, e_239_74, e_239_75, e_239_77, e_239_78, e_239_81, e_239_82, e_239_83, e_239_84, e_239_85, e_239_88, e_239_91, e_239_92, e_239_94, e_239_95, e_239_98, e_239_101, e_239_102, e_239_104, e_239_107, e_239_110, e_239_113, e_239_116, e_239_117, e_239_118, e_239_121, e_239_122, e_239_123, e_239_124, e_239_126, e_239_127, e_239_130, e_239_131, e_239_133, e_239_134, e_239_135, e_239_137, e_239_140, e_239_143, e_239_146, e_239_147, e_239_148, e_239_150, e_239_151, e_239_154, e_239_157, e_239_160, e_239_163, e_239_165, Option.bind_some, Option.bind_none, m_kt, m_kn, Option.toList_some, Option.toList_none, List.nil_append, List.cons_append, List.append_nil, ltn, ite_not, ↓reduceIte, true_or, or_true, nP1, oI_s, oI_n, bI_f, bI_t, i1_0, i0_0, Bool.false_eq_true, not_true_eq_false, not_false_eq_true, HV.isc, pe, Int32.le_refl]
  rfl
theorem Mfrost_ev (O : mO) (d : Nat) (H : MS h m W) (R : rng W) (hq : q ≤ 12) (h6 : m 6 = nI q) (e70 : h.1[70]? = some (aI 2160 U)) (x y : Int32) : MP (ev O (d + 2) 239 0 [.ref 66, .int x, .int y, mJ, mJ, mJ] [] h) h m (codeIn y 1 60) W (froW W x y) q U (.int (froV W x y)) := by
  have H0 := H.t 0
  unfold codeIn MP
  cases a1 : inB y 1 60
  · simp only [e_239_0, e_239_1, e_239_2, e_239_5, e_239_6, e_239_7, e_239_8, e_239_10, e_239_13, e_239_16, e_239_17, e_239_20, e_239_21, e_239_22, e_239_25, e_239_28, e_239_29, e_239_30, e_239_31, e_239_34, e_239_35, e_239_36, e_239_37, e_239_39, e_239_40, e_239_44, e_239_45, e_239_48, e_239_51, e_239_54, e_239_55, e_239_56, e_239_59, e_239_60, e_239_61, e_239_62, e_239_64, e_239_65, e_239_67, e_239_68, e_239_70, e_239_71, e_239_74, e_239_75, e_239_77, e_239_78, e_239_81, e_239_82, e_239_83, e_239_84, e_239_85, e_239_88, e_239_91, e_239_92, e_239_94, e_239_95, e_239_98, e_239_101, e_239_102, e_239_104, e_239_107, e_239_110, e_239_113, e_239_116, e_239_117, e_239_118, e_239_121, e_239_122, e_239_123, e_239_124, e_239_126, e_239_127, e_239_130, e_239_131, e_239_133, e_239_134, e_239_135, e_239_137, e_239_140, e_239_143, e_239_146, e_239_147, e_239_148, e_239_150, e_239_151, e_239_154, e_239_157, e_239_160, e_239_163, e_239_165, Option.bind_some, Option.bind_none, m_kt, m_kn, Option.toList_some, Option.toList_none, List.nil_append, List.cons_append, List.append_nil, ltn, ite_not, ↓reduceIte, true_or, or_true, nP1, oI_s, oI_n, bI_f, bI_t, i1_0, i0_0, Bool.false_eq_true, not_true_eq_false, not_false_eq_true, nI_0, m1m1, Nat.one_ne_zero, two_ne0, pMt H, H0.isc, in_ev, a1, thr1_ev O (d + 1) H0, tH_tH]
    rfl
  · have b1 := a1
    obtain ⟨n, n1, n6, rfl⟩ := inB1_60 a1
    have h60 : upd m 0 0 6 = nI q := (pk_un (by omega)).trans h6
    have e70' : (tH h m 0).1[70]? = some (aI 2160 U) := (hne (by decide)).trans e70
    obtain ⟨U', er, ru⟩ := remembers_ev O (d + 1) H0 hq h60 e70'
    have H1 := hU_MS H0 (upd (upd m 0 0) 6 (nI (min (q + 1) 12))) U'
    simp only [↓reduceIte]
    refine ⟨U', ?_, ru⟩
    simp only [e_239_0, e_239_1, e_239_2, e_239_5, e_239_6, e_239_7, e_239_8, e_239_10, e_239_13, e_239_16, e_239_17, e_239_20, e_239_21, e_239_22, e_239_25, e_239_28, e_239_29, e_239_30, e_239_31, e_239_34, e_239_35, e_239_36, e_239_37, e_239_39, e_239_40, e_239_44, e_239_45, e_239_48, e_239_51, e_239_54, e_239_55, e_239_56, e_239_59, e_239_60, e_239_61, e_239_62, e_239_64, e_239_65, e_239_67, e_239_68, e_239_70, e_239_71, e_239_74, e_239_75, e_239_77, e_239_78, e_239_81, e_239_82, e_239_83, e_239_84, e_239_85, e_239_88, e_239_91, e_239_92, e_239_94, e_239_95, e_239_98, e_239_101, e_239_102, e_239_104, e_239_107, e_239_110, e_239_113, e_239_116, e_239_117, e_239_118, e_239_121, e_239_122, e_239_123, e_239_124, e_239_126, e_239_127, e_239_130, e_239_131, e_239_133, e_239_134, e_239_135, e_239_137, e_239_140, e_239_143, e_239_146, e_239_147, e_239_148, e_239_150, e_239_151, e_239_154, e_239_157, e_239_160, e_239_163, e_239_165, Option.bind_some, Option.bind_none, m_kt, m_kn, Option.toList_some, Option.toList_none, List.nil_append, List.cons_append, List.append_nil, ltn, ite_not, ↓reduceIte, true_or, or_true, nP1, oI_s, oI_n, bI_f, bI_t, i1_0, i0_0, Bool.false_eq_true, not_true_eq_false, not_false_eq_true, nI_0, m1m1, Nat.one_ne_zero, two_ne0, pMt H, H0.isc, in_ev, b1, thr0_ev O (d + 1) H0, er]
    exact mfz_loop O d H1 R x n1 n6
end FrostM
