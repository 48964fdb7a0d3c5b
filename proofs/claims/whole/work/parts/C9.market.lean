/-! The class's market: a pane more, all panes -/
theorem PLC.sv {O : mO} (P : PLC O) : m_sv O (.retAddr 1) = .retAddr 1 := by
  obtain ⟨f, e, -⟩ := P
  simp only [m_sv, e, Option.isSome_some, ↓reduceIte]
section MarketC
variable {h : mH} {c : Nat} {W : WD}
theorem isWanted_ev (O : mO) (d : Nat) (H : CA h c W) (R : rng W) {n : Nat} (hn : n ≤ 6) (e63 : h.1[63]? = some (oMk (nI n))) {k : Nat} (hk : k < 30) : ev O (d) 60 0 [.ref 63, .ref c, .int (nI k), mJ] [] h = some (.inl (some (.int (bI (fd (fun s => decide (oW W s k ≠ 0)) n).isSome))), h) := by
  have e := fd_runV (ν := Unit) (c := fun s => decide (oW W s k ≠ 0)) (n := n) (F := fun s _ => ev O (d) 60 2 [.ref 63, .ref c, .int (nI k), .int (nI s)] [] h) (r := fun _ => some (.inl (some (.int (1))), h)) (fun s _ hs => by
    obtain ⟨o1, o2⟩ := of_e R (show s < 6 by omega) hk
    have c1 : ¬ nI n ≤ nI s := nI_ge hs (by omega)
    have ga : m_ai h (c + 8) (nI (30 * s + k)) = some (nI (oW W s k)) := by rw [H.of (by omega), o1]
    rw [e_60_2]
    by_cases z : oW W s k = 0
    · refine ⟨fun q => (by rw [z] at q; cases q), fun _ => ⟨(), ?_⟩⟩
      rw [z] at ga
      simp only [e_60_0, e_60_1, e_60_3, e_60_4, e_60_7, e_60_10, e_60_11, e_60_14, e_60_16, e_60_17, e_60_18, e_60_19, e_60_20, e_60_21, e_60_24, e_60_25, e_60_26, e_60_29, e_60_32, e_60_33, Option.bind_some, Option.bind_none, m_kt, m_kn, Option.toList_some, Option.toList_none, List.nil_append, List.cons_append, List.append_nil, ltn, ite_not, ↓reduceIte, true_or, or_true, nP1, oI_s, oI_n, bI_f, bI_t, i1_0, i0_0, Bool.false_eq_true, not_true_eq_false, not_false_eq_true, gMk1 e63, c1, gC15 H, n30, nA, ga, (show (nI 0 ≤ 0) = True by decide)]
    · have q1 : ¬ nI (oW W s k) ≤ 0 := nI_ge (a := 0) (by omega) (by omega)
      refine ⟨fun _ => ?_, fun q => (by rw [decide_eq_true z] at q; cases q)⟩
      simp only [e_60_0, e_60_1, e_60_3, e_60_4, e_60_7, e_60_10, e_60_11, e_60_14, e_60_16, e_60_17, e_60_18, e_60_19, e_60_20, e_60_21, e_60_24, e_60_25, e_60_26, e_60_29, e_60_32, e_60_33, Option.bind_some, Option.bind_none, m_kt, m_kn, Option.toList_some, Option.toList_none, List.nil_append, List.cons_append, List.append_nil, ltn, ite_not, ↓reduceIte, true_or, or_true, nP1, oI_s, oI_n, bI_f, bI_t, i1_0, i0_0, Bool.false_eq_true, not_true_eq_false, not_false_eq_true, gMk1 e63, c1, gC15 H, n30, nA, ga, q1, o01]) ()
  simp only [nI_0] at e
  rcases e with ⟨i, q, e⟩ | ⟨q, -, e⟩
  · rw [q]
    simp only [e_60_0, e_60_1, e_60_3, e_60_4, e_60_7, e_60_10, e_60_11, e_60_14, e_60_16, e_60_17, e_60_18, e_60_19, e_60_20, e_60_21, e_60_24, e_60_25, e_60_26, e_60_29, e_60_32, e_60_33, Option.bind_some, Option.bind_none, m_kt, m_kn, Option.toList_some, Option.toList_none, List.nil_append, List.cons_append, List.append_nil, ltn, ite_not, ↓reduceIte, true_or, or_true, nP1, oI_s, oI_n, bI_f, bI_t, i1_0, i0_0, Bool.false_eq_true, not_true_eq_false, not_false_eq_true]
    exact e
  · rw [q]
    simp only [e_60_0, e_60_1, e_60_3, e_60_4, e_60_7, e_60_10, e_60_11, e_60_14, e_60_16, e_60_17, e_60_18, e_60_19, e_60_20, e_60_21, e_60_24, e_60_25, e_60_26, e_60_29, e_60_32, e_60_33, Option.bind_some, Option.bind_none, m_kt, m_kn, Option.toList_some, Option.toList_none, List.nil_append, List.cons_append, List.append_nil, ltn, ite_not, ↓reduceIte, true_or, or_true, nP1, oI_s, oI_n, bI_f, bI_t, i1_0, i0_0, Bool.false_eq_true, not_true_eq_false, not_false_eq_true]
    refine e.trans ?_
    rw [e_60_2]
    simp only [e_60_0, e_60_1, e_60_3, e_60_4, e_60_7, e_60_10, e_60_11, e_60_14, e_60_16, e_60_17, e_60_18, e_60_19, e_60_20, e_60_21, e_60_24, e_60_25, e_60_26, e_60_29, e_60_32, e_60_33, Option.bind_some, Option.bind_none, m_kt, m_kn, Option.toList_some, Option.toList_none, List.nil_append, List.cons_append, List.append_nil, ltn, ite_not, ↓reduceIte, true_or, or_true, nP1, oI_s, oI_n, bI_f, bI_t, i1_0, i0_0, Bool.false_eq_true, not_true_eq_false, not_false_eq_true, gMk1 e63, Int32.le_refl, z01]
    rfl
/-- one seer of a set -/
def bcF (of : Nat → Nat → Nat) (k : Nat) (b : Nat → Int) (S : Nat) : Nat → Int → Int := fun s x => if of s k = 0 ∨ S.testBit s = false then x else if b (wo S s) < 0 then x else max x (b (wo S s) + 887503681 * (of s k : Int) - ((k + 1) * pl s : Nat))
def bbd (b : Nat → Int) (n : Nat) (B : Int) : Prop := ∀ T, T < 2 ^ n → -1 ≤ b T ∧ b T ≤ B
theorem add16 (O : mO) (d : Nat) (P : PLC O) (H : CA h c W) (hc : c < 20) (R : rng W) {n : Nat} (hn : n ≤ 6) (e63 : h.1[63]? = some (oMk (nI n))) {f0 : Nat → Int64} (e64 : h.1[64]? = some (aL 64 f0)) {k : Nat} (hk : k < 30) {S : Nat} (hS : S < 2 ^ n) {b : Nat → Int} {B : Int} (hB : B ≤ 2 ^ 50) (hb : bbd b n B) {f : Nat → Int64} (hf : ∀ T, T ≤ S → f T = lI (b T)) (v5 v6 v7 : Value) : ∃ f' w5 w6 w7, f' S = lI (bcS n (oW W) k b S) ∧ (∀ T, T ≠ S → f' T = f T) ∧ ev O (d) 61 16 [.ref 63, .ref c, .int (nI k), .int (nI S), .int 0, v5, v6, v7] [] (hBs h f) = ev O (d) 61 16 [.ref 63, .ref c, .int (nI k), .int (nI S), .int (nI n), w5, w6, w7] [] (hBs h f') := by
  have p6 : 2 ^ n ≤ 64 := by rw [show 64 = 2 ^ 6 from rfl]; exact Nat.pow_le_pow_right (by omega) hn
  have H1 : ∀ f, CA (hBs h f) c W := fun f => H.out (A := fun b => b = 64) (out.st h _ rfl) (fun b hb => by omega)
  have g63 : ∀ f, (hBs h f).1[63]? = some (oMk (nI n)) := fun f => (hne (by decide)).trans e63
  have g64 : ∀ f, (hBs h f).1[64]? = some (aL 64 f) := fun f => hget e64
  have s64 : ∀ f j x, j < 64 → m_sl (hBs h f) 64 (nI j) x = some (hBs h (vp_updL f j x)) := fun f j x hj => by
    rw [sl_n (g64 f) hj (by decide)]; unfold hBs; rw [List.set_set]
  have e := lp_runJ (ν := (Nat → Int64) × Value × Value × Value) (F := fun s (x : Int) v => ev O (d) 61 16 [.ref 63, .ref c, .int (nI k), .int (nI S), .int (nI s), v.2.1, v.2.2.1, v.2.2.2] [] (hBs h v.1)) (f := bcF (oW W) k b S) (n := n) (fun s x v => v.1 S = lI x ∧ (∀ T, T ≠ S → v.1 T = f T) ∧ -1 ≤ x ∧ x ≤ B + 887503681 * 99) (fun s x v hs J => by
    obtain ⟨v, v5, v6, v7⟩ := v
    obtain ⟨J1, J2, J3, J4⟩ := J
    simp only at J1 J2
    obtain ⟨o1, o2⟩ := of_e R (show s < 6 by omega) hk
    have c1 : ¬ nI n ≤ nI s := nI_ge hs (by omega)
    have ga : ∀ f, m_ai (hBs h f) (c + 8) (nI (30 * s + k)) = some (nI (oW W s k)) := fun f => by rw [(H1 f).of (by omega), o1]
    have bt := st_bt S (by omega) s (by omega)
    unfold bcF
    rw [e_61_16]
    by_cases z : oW W s k = 0
    · rw [if_pos (.inl z)]
      refine ⟨(v, .int (nI (oW W s k)), v6, v7), ⟨J1, J2, J3, J4⟩, ?_⟩
      rw [z] at ga ⊢
      simp only [e_61_0, e_61_1, e_61_2, e_61_5, e_61_6, e_61_7, e_61_8, e_61_9, e_61_10, e_61_13, e_61_14, e_61_18, e_61_19, e_61_22, e_61_25, e_61_26, e_61_29, e_61_31, e_61_33, e_61_34, e_61_35, e_61_36, e_61_37, e_61_39, e_61_41, e_61_44, e_61_45, e_61_47, e_61_48, e_61_49, e_61_50, e_61_53, e_61_56, e_61_57, e_61_60, e_61_61, e_61_62, e_61_64, e_61_65, e_61_66, e_61_67, e_61_68, e_61_69, e_61_71, e_61_73, e_61_74, e_61_75, e_61_78, e_61_79, e_61_82, e_61_83, e_61_84, e_61_87, e_61_88, e_61_89, e_61_91, e_61_93, e_61_94, e_61_97, e_61_98, e_61_99, e_61_100, e_61_101, e_61_102, e_61_103, e_61_106, e_61_108, e_61_109, e_61_110, e_61_111, e_61_114, e_61_115, e_61_118, e_61_121, e_61_124, e_61_127, Option.bind_some, Option.bind_none, m_kt, m_kn, Option.toList_some, Option.toList_none, List.nil_append, List.cons_append, List.append_nil, ltn, ite_not, ↓reduceIte, true_or, or_true, nP1, oI_s, oI_n, bI_f, bI_t, i1_0, i0_0, Bool.false_eq_true, not_true_eq_false, not_false_eq_true, gMk1 (g63 v), c1, gC15 (H1 v), n30, nA, ga, (show (nI 0 = 0) = True by decide)]
    · have q1 : ¬ nI (oW W s k) = 0 := nI_ne0 (by omega) (by omega)
      by_cases t : S.testBit s = true
      · obtain ⟨w1, w2⟩ := st_wo S (by omega) s (by omega) t
        rw [if_pos t] at bt
        rw [if_neg (by rw [t]; simp [z])]
        obtain ⟨b1, b2⟩ := hb (wo S s) (by omega)
        have sb : sml (b (wo S s)) := ⟨by omega, by omega⟩
        have gw : m_al (hBs h v) 64 (nI (wo S s)) = some (lI (b (wo S s))) := by rw [al_n (g64 v) (by omega) (by decide), J2 _ (by omega), hf _ (by omega)]
        have gS : m_al (hBs h v) 64 (nI S) = some (lI x) := by rw [al_n (g64 v) (by omega) (by decide), J1]
        by_cases lt : b (wo S s) < 0
        · rw [if_pos lt]
          refine ⟨(v, .int (nI (oW W s k)), .long (lI (b (wo S s))), mJ), ⟨J1, J2, J3, J4⟩, ?_⟩
          have cm : ¬ (0 : Int32) ≤ lg_cmp (lI (b (wo S s))) 0 := by rw [cmp0 sb]; omega
          simp only [e_61_0, e_61_1, e_61_2, e_61_5, e_61_6, e_61_7, e_61_8, e_61_9, e_61_10, e_61_13, e_61_14, e_61_18, e_61_19, e_61_22, e_61_25, e_61_26, e_61_29, e_61_31, e_61_33, e_61_34, e_61_35, e_61_36, e_61_37, e_61_39, e_61_41, e_61_44, e_61_45, e_61_47, e_61_48, e_61_49, e_61_50, e_61_53, e_61_56, e_61_57, e_61_60, e_61_61, e_61_62, e_61_64, e_61_65, e_61_66, e_61_67, e_61_68, e_61_69, e_61_71, e_61_73, e_61_74, e_61_75, e_61_78, e_61_79, e_61_82, e_61_83, e_61_84, e_61_87, e_61_88, e_61_89, e_61_91, e_61_93, e_61_94, e_61_97, e_61_98, e_61_99, e_61_100, e_61_101, e_61_102, e_61_103, e_61_106, e_61_108, e_61_109, e_61_110, e_61_111, e_61_114, e_61_115, e_61_118, e_61_121, e_61_124, e_61_127, Option.bind_some, Option.bind_none, m_kt, m_kn, Option.toList_some, Option.toList_none, List.nil_append, List.cons_append, List.append_nil, ltn, ite_not, ↓reduceIte, true_or, or_true, nP1, oI_s, oI_n, bI_f, bI_t, i1_0, i0_0, Bool.false_eq_true, not_true_eq_false, not_false_eq_true, gMk1 (g63 v), gMk0 (g63 v), c1, gC15 (H1 v), n30, nA, ga, q1, bt, shl_nI, w1, gw, cm]
        · rw [if_neg lt]
          obtain ⟨p1, p2⟩ := pl_b s (by omega)
          have cm : (0 : Int32) ≤ lg_cmp (lI (b (wo S s))) 0 := by rw [cmp0 sb]; omega
          have pk : (k + 1) * pl s ≤ 30 * 28629151 := Nat.mul_le_mul (by omega) p2
          have ar : lI (b (wo S s)) + (nI (oW W s k)).toInt64 * 887503681 - (nI (k + 1)).toInt64 * lI (pl s : Int) = lI (b (wo S s) + 887503681 * (oW W s k : Int) - ((k + 1) * pl s : Nat)) := by
            rw [nI_j (by omega), nI_j (by omega), show (887503681 : Int64) = lI 887503681 from rfl, lI_mul, lI_mul, lI_add, lI_sub, Int.mul_comm (oW W s k : Int) 887503681]
            rfl
          have sx : sml x := ⟨by omega, by omega⟩
          have sy : sml (b (wo S s) + 887503681 * (oW W s k : Int) - ((k + 1) * pl s : Nat)) := by
            constructor <;> omega
          refine ⟨(vp_updL v S (lI (max x (b (wo S s) + 887503681 * (oW W s k : Int) - ((k + 1) * pl s : Nat)))), .int (nI (oW W s k)), .long (lI (b (wo S s))), mJ), ⟨if_pos rfl, fun T hT => (if_neg hT).trans (J2 T hT), by omega, by omega⟩, ?_⟩
          simp only [e_61_0, e_61_1, e_61_2, e_61_5, e_61_6, e_61_7, e_61_8, e_61_9, e_61_10, e_61_13, e_61_14, e_61_18, e_61_19, e_61_22, e_61_25, e_61_26, e_61_29, e_61_31, e_61_33, e_61_34, e_61_35, e_61_36, e_61_37, e_61_39, e_61_41, e_61_44, e_61_45, e_61_47, e_61_48, e_61_49, e_61_50, e_61_53, e_61_56, e_61_57, e_61_60, e_61_61, e_61_62, e_61_64, e_61_65, e_61_66, e_61_67, e_61_68, e_61_69, e_61_71, e_61_73, e_61_74, e_61_75, e_61_78, e_61_79, e_61_82, e_61_83, e_61_84, e_61_87, e_61_88, e_61_89, e_61_91, e_61_93, e_61_94, e_61_97, e_61_98, e_61_99, e_61_100, e_61_101, e_61_102, e_61_103, e_61_106, e_61_108, e_61_109, e_61_110, e_61_111, e_61_114, e_61_115, e_61_118, e_61_121, e_61_124, e_61_127, Option.bind_some, Option.bind_none, m_kt, m_kn, Option.toList_some, Option.toList_none, List.nil_append, List.cons_append, List.append_nil, ltn, ite_not, ↓reduceIte, true_or, or_true, nP1, oI_s, oI_n, bI_f, bI_t, i1_0, i0_0, Bool.false_eq_true, not_true_eq_false, not_false_eq_true, gMk1 (g63 v), gMk0 (g63 v), c1, gC15 (H1 v), n30, nA, ga, q1, bt, shl_nI, w1, gw, cm, gS, P.at (show s < 6 by omega), P.sv, ar, lI_mx sx sy, s64 v _ _ (show S < 64 by omega)]
      · rw [if_neg t] at bt
        have t' : S.testBit s = false := by simpa using t
        rw [if_pos (.inr t')]
        refine ⟨(v, .int (nI (oW W s k)), v6, v7), ⟨J1, J2, J3, J4⟩, ?_⟩
        simp only [e_61_0, e_61_1, e_61_2, e_61_5, e_61_6, e_61_7, e_61_8, e_61_9, e_61_10, e_61_13, e_61_14, e_61_18, e_61_19, e_61_22, e_61_25, e_61_26, e_61_29, e_61_31, e_61_33, e_61_34, e_61_35, e_61_36, e_61_37, e_61_39, e_61_41, e_61_44, e_61_45, e_61_47, e_61_48, e_61_49, e_61_50, e_61_53, e_61_56, e_61_57, e_61_60, e_61_61, e_61_62, e_61_64, e_61_65, e_61_66, e_61_67, e_61_68, e_61_69, e_61_71, e_61_73, e_61_74, e_61_75, e_61_78, e_61_79, e_61_82, e_61_83, e_61_84, e_61_87, e_61_88, e_61_89, e_61_91, e_61_93, e_61_94, e_61_97, e_61_98, e_61_99, e_61_100, e_61_101, e_61_102, e_61_103, e_61_106, e_61_108, e_61_109, e_61_110, e_61_111, e_61_114, e_61_115, e_61_118, e_61_121, e_61_124, e_61_127, Option.bind_some, Option.bind_none, m_kt, m_kn, Option.toList_some, Option.toList_none, List.nil_append, List.cons_append, List.append_nil, ltn, ite_not, ↓reduceIte, true_or, or_true, nP1, oI_s, oI_n, bI_f, bI_t, i1_0, i0_0, Bool.false_eq_true, not_true_eq_false, not_false_eq_true, gMk1 (g63 v), c1, gC15 (H1 v), n30, nA, ga, q1, bt]) (b S) (f, v5, v6, v7) ⟨hf S (Nat.le_refl _), fun _ _ => rfl, (hb S hS).1, by have := (hb S hS).2; omega⟩
  obtain ⟨⟨f', w5, w6, w7⟩, ⟨J1, J2, -⟩, e⟩ := e
  exact ⟨f', w5, w6, w7, J1, J2, e⟩
/-- all sets, the greatest first -/
theorem add9 (O : mO) (d : Nat) (P : PLC O) (H : CA h c W) (hc : c < 20) (R : rng W) {n : Nat} (hn : n ≤ 6) (e63 : h.1[63]? = some (oMk (nI n))) {f0 : Nat → Int64} (e64 : h.1[64]? = some (aL 64 f0)) {k : Nat} (hk : k < 30) {b : Nat → Int} {B : Int} (hB : B ≤ 2 ^ 50) (hb : bbd b n B) : ∀ S, S < 2 ^ n → ∀ (f : Nat → Int64) (v4 v5 v6 v7 : Value), (∀ T, T < 2 ^ n → f T = lI (if S < T then bcS n (oW W) k b T else b T)) → ∃ f', (∀ T, T < 2 ^ n → f' T = lI (bcS n (oW W) k b T)) ∧ ev O (d) 61 9 [.ref 63, .ref c, .int (nI k), .int (nI S), v4, v5, v6, v7] [] (hBs h f) = some (.inl none, hBs h f')
  | 0, hS, f, v4, v5, v6, v7, hf => by
    have b0 : bcS n (oW W) k b 0 = b 0 := by
      unfold bcS
      rw [lp_congr (g := fun _ x => x) (fun s x hs => by rw [if_pos (.inr (Nat.zero_testBit s))])]
      clear hS hf hb e63 hn
      induction n with
      | zero => rfl
      | succ n ih => exact ih
    refine ⟨f, fun T hT => ?_, ?_⟩
    · rw [hf T hT]
      by_cases z : 0 < T
      · rw [if_pos z]
      · rw [if_neg z, show T = 0 by omega, b0]
    · rw [e_61_9]
      simp only [e_61_0, e_61_1, e_61_2, e_61_5, e_61_6, e_61_7, e_61_8, e_61_10, e_61_13, e_61_14, e_61_18, e_61_19, e_61_22, e_61_25, e_61_26, e_61_29, e_61_31, e_61_33, e_61_34, e_61_35, e_61_36, e_61_37, e_61_39, e_61_41, e_61_44, e_61_45, e_61_47, e_61_48, e_61_49, e_61_50, e_61_53, e_61_56, e_61_57, e_61_60, e_61_61, e_61_62, e_61_64, e_61_65, e_61_66, e_61_67, e_61_68, e_61_69, e_61_71, e_61_73, e_61_74, e_61_75, e_61_78, e_61_79, e_61_82, e_61_83, e_61_84, e_61_87, e_61_88, e_61_89, e_61_91, e_61_93, e_61_94, e_61_97, e_61_98, e_61_99, e_61_100, e_61_101, e_61_102, e_61_103, e_61_106, e_61_108, e_61_109, e_61_110, e_61_111, e_61_114, e_61_115, e_61_118, e_61_121, e_61_124, e_61_127, Option.bind_some, Option.bind_none, m_kt, m_kn, Option.toList_some, Option.toList_none, List.nil_append, List.cons_append, List.append_nil, ltn, ite_not, ↓reduceIte, true_or, or_true, nP1, oI_s, oI_n, bI_f, bI_t, i1_0, i0_0, Bool.false_eq_true, not_true_eq_false, not_false_eq_true, (show (nI 0 ≤ 0) = True by decide)]
  | S + 1, hS, f, v4, v5, v6, v7, hf => by
    have p6 : 2 ^ n ≤ 64 := by rw [show 64 = 2 ^ 6 from rfl]; exact Nat.pow_le_pow_right (by omega) hn
    obtain ⟨f1, w5, w6, w7, q1, q2, e⟩ := add16 O d P H hc R hn e63 e64 hk hS hB hb (f := f) (fun T hT => by rw [hf T (by omega), if_neg (by omega)]) v5 v6 v7
    obtain ⟨f', q3, e'⟩ := add9 O d P H hc R hn e63 e64 hk hB hb S (by omega) f1 (.int (nI n)) w5 w6 w7 (fun T hT => by
      by_cases z : T = S + 1
      · subst z; rw [q1, if_pos (by omega)]
      · rw [q2 T z, hf T hT]
        by_cases y : S + 1 < T
        · rw [if_pos y, if_pos (by omega)]
        · rw [if_neg y, if_neg (by omega)])
    refine ⟨f', q3, ?_⟩
    have g63 : ∀ f, (hBs h f).1[63]? = some (oMk (nI n)) := fun f => (hne (by decide)).trans e63
    have mm : nI (S + 1) + -1 = nI S := by rw [← nI_pred S]; exact (Int32.sub_eq_add_neg _ _).symm
    have c1 : ¬ nI (S + 1) ≤ 0 := nI_ge (a := 0) (by omega) (by omega)
    rw [e_61_9]
    simp only [e_61_0, e_61_1, e_61_2, e_61_5, e_61_6, e_61_7, e_61_8, e_61_10, e_61_13, e_61_14, e_61_18, e_61_19, e_61_22, e_61_25, e_61_26, e_61_29, e_61_31, e_61_33, e_61_34, e_61_35, e_61_36, e_61_37, e_61_39, e_61_41, e_61_44, e_61_45, e_61_47, e_61_48, e_61_49, e_61_50, e_61_53, e_61_56, e_61_57, e_61_60, e_61_61, e_61_62, e_61_64, e_61_65, e_61_66, e_61_67, e_61_68, e_61_69, e_61_71, e_61_73, e_61_74, e_61_75, e_61_78, e_61_79, e_61_82, e_61_83, e_61_84, e_61_87, e_61_88, e_61_89, e_61_91, e_61_93, e_61_94, e_61_97, e_61_98, e_61_99, e_61_100, e_61_101, e_61_102, e_61_103, e_61_106, e_61_108, e_61_109, e_61_110, e_61_111, e_61_114, e_61_115, e_61_118, e_61_121, e_61_124, e_61_127, Option.bind_some, Option.bind_none, m_kt, m_kn, Option.toList_some, Option.toList_none, List.nil_append, List.cons_append, List.append_nil, ltn, ite_not, ↓reduceIte, true_or, or_true, nP1, oI_s, oI_n, bI_f, bI_t, i1_0, i0_0, Bool.false_eq_true, not_true_eq_false, not_false_eq_true, c1]
    rw [e, e_61_16]
    simp only [e_61_0, e_61_1, e_61_2, e_61_5, e_61_6, e_61_7, e_61_8, e_61_10, e_61_13, e_61_14, e_61_18, e_61_19, e_61_22, e_61_25, e_61_26, e_61_29, e_61_31, e_61_33, e_61_34, e_61_35, e_61_36, e_61_37, e_61_39, e_61_41, e_61_44, e_61_45, e_61_47, e_61_48, e_61_49, e_61_50, e_61_53, e_61_56, e_61_57, e_61_60, e_61_61, e_61_62, e_61_64, e_61_65, e_61_66, e_61_67, e_61_68, e_61_69, e_61_71, e_61_73, e_61_74, e_61_75, e_61_78, e_61_79, e_61_82, e_61_83, e_61_84, e_61_87, e_61_88, e_61_89, e_61_91, e_61_93, e_61_94, e_61_97, e_61_98, e_61_99, e_61_100, e_61_101, e_61_102, e_61_103, e_61_106, e_61_108, e_61_109, e_61_110, e_61_111, e_61_114, e_61_115, e_61_118, e_61_121, e_61_124, e_61_127, Option.bind_some, Option.bind_none, m_kt, m_kn, Option.toList_some, Option.toList_none, List.nil_append, List.cons_append, List.append_nil, ltn, ite_not, ↓reduceIte, true_or, or_true, nP1, oI_s, oI_n, bI_f, bI_t, i1_0, i0_0, Bool.false_eq_true, not_true_eq_false, not_false_eq_true, gMk1 (g63 f1), Int32.le_refl, mm]
    exact e'
theorem add_ev (O : mO) (d : Nat) (P : PLC O) (H : CA h c W) (hc : c < 20) (R : rng W) {n : Nat} (hn : n ≤ 6) (e63 : h.1[63]? = some (oMk (nI n))) {f0 : Nat → Int64} (e64 : h.1[64]? = some (aL 64 f0)) {k : Nat} (hk : k < 30) {b : Nat → Int} {B : Int} (hB : B ≤ 2 ^ 50) (hb : bbd b n B) (f : Nat → Int64) (hf : ∀ T, T < 2 ^ n → f T = lI (b T)) : ∃ f', (∀ T, T < 2 ^ n → f' T = lI (bcS n (oW W) k b T)) ∧ ev O (d) 61 0 [.ref 63, .ref c, .int (nI k), mJ, mJ, mJ, mJ, mJ] [] (hBs h f) = some (.inl none, hBs h f') := by
  have p1 : 1 ≤ 2 ^ n := Nat.one_le_two_pow
  obtain ⟨f', q, e⟩ := add9 O d P H hc R hn e63 e64 hk hB hb (2 ^ n - 1) (by omega) f mJ mJ mJ mJ (fun T hT => by rw [hf T hT, if_neg (by omega)])
  refine ⟨f', q, ?_⟩
  have g63 : ∀ f, (hBs h f).1[63]? = some (oMk (nI n)) := fun f => (hne (by decide)).trans e63
  simp only [e_61_0, e_61_1, e_61_2, e_61_5, e_61_6, e_61_7, e_61_8, e_61_10, e_61_13, e_61_14, e_61_18, e_61_19, e_61_22, e_61_25, e_61_26, e_61_29, e_61_31, e_61_33, e_61_34, e_61_35, e_61_36, e_61_37, e_61_39, e_61_41, e_61_44, e_61_45, e_61_47, e_61_48, e_61_49, e_61_50, e_61_53, e_61_56, e_61_57, e_61_60, e_61_61, e_61_62, e_61_64, e_61_65, e_61_66, e_61_67, e_61_68, e_61_69, e_61_71, e_61_73, e_61_74, e_61_75, e_61_78, e_61_79, e_61_82, e_61_83, e_61_84, e_61_87, e_61_88, e_61_89, e_61_91, e_61_93, e_61_94, e_61_97, e_61_98, e_61_99, e_61_100, e_61_101, e_61_102, e_61_103, e_61_106, e_61_108, e_61_109, e_61_110, e_61_111, e_61_114, e_61_115, e_61_118, e_61_121, e_61_124, e_61_127, Option.bind_some, Option.bind_none, m_kt, m_kn, Option.toList_some, Option.toList_none, List.nil_append, List.cons_append, List.append_nil, ltn, ite_not, ↓reduceIte, true_or, or_true, nP1, oI_s, oI_n, bI_f, bI_t, i1_0, i0_0, Bool.false_eq_true, not_true_eq_false, not_false_eq_true, gMk1 (g63 f), shl_nI, (st_n n hn).1]
  exact e
end MarketC
