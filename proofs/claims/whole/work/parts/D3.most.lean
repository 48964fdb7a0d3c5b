/-! The reference's market: the most of a set -/
theorem mxn {a b : Nat} (ha : a < 2 ^ 31) (hb : b < 2 ^ 31) : (if nI b ≤ nI a then nI a else nI b) = nI (max a b) := by
  simp only [nLe hb ha]
  split
  · rw [Nat.max_eq_left (by omega)]
  · rw [Nat.max_eq_right (by omega)]
theorem bt_n : ∀ S, S < 64 → ∀ s, s < 6 → bt (nI S) s = S.testBit s := by decide +kernel
def pdF (of : Nat → Nat → Nat) (k : Nat) (b : Nat → Nat) (S : Nat) : Nat → Nat → Nat := fun s x => if S.testBit s = true then max x (b (wo S s) + of s k) else x
def hPd (h : mH) (v : Nat → Int32) : mH := (h.1.set 75 (aI 64 v), h.2)
theorem sc_hPd {h : mH} (v : Nat → Int32) : sc h (hPd h v) := sc_set (by decide) v
section MostM
variable {h : mH} {m : Nat → Int32} {W : WD}
theorem most55 (O : mO) (d : Nat) (H : MS h m W) (R : rng W) (S0 : SH h) {p : Nat} (hp : p < 30) {S : Nat} (hS : S < 64) {b : Nat → Nat} {B : Nat} (hB : B ≤ 100000) (hb : ∀ T, T < 64 → b T ≤ B) {v : Nat → Int32} (hv : ∀ T, T ≤ S → v T = nI (b T)) (q : Int32) : ∃ v', v' S = nI (pdS (oW W) p b S) ∧ (∀ T, T ≠ S → v' T = v T) ∧ ev O (d + 1) 219 55 [.ref 66, .int q, .int (nI p), .int (nI S), .int 0] [] (hPd h v) = ev O (d + 1) 219 55 [.ref 66, .int q, .int (nI p), .int (nI S), .int 6] [] (hPd h v') := by
  obtain ⟨f0, e75⟩ := S0.at (b := 75) (n := 64) (by decide)
  have H1 : ∀ v, MS (hPd h v) m W := fun v => sc_MS (sc_hPd v) H
  have g75 : ∀ v, (hPd h v).1[75]? = some (aI 64 v) := fun v => hget e75
  have s75 : ∀ v j x, j < 64 → m_si (hPd h v) 75 (nI j) x = some (hPd h (upd v j x)) := fun v j x hj => by
    rw [si_n (g75 v) hj (by decide)]; unfold hPd; rw [List.set_set]
  have e := lp_runJ (ν := Nat → Int32) (F := fun s (x : Nat) v => ev O (d + 1) 219 55 [.ref 66, .int q, .int (nI p), .int (nI S), .int (nI s)] [] (hPd h v)) (f := pdF (oW W) p b S) (n := 6) (fun s x w => w S = nI x ∧ (∀ T, T ≠ S → w T = v T) ∧ x ≤ B + 99) (fun s x w hs J => by
    obtain ⟨J1, J2, J3⟩ := J
    obtain ⟨o1, o2⟩ := of_e R hs hp
    have c1 : ¬ (6 : Int32) ≤ nI s := nI_ge (b := 6) hs (by omega)
    have ga : ∀ v, m_ai (hPd h v) 67 (nI (247 + 30 * s + p)) = some (nI (oW W s p)) := fun v => by rw [(H1 v).w.w (by omega), Nat.add_assoc, o1]
    have eh := has_ev O d (hPd h w) (nI S) (show s < 32 by omega)
    rw [bt_n S hS s hs] at eh
    unfold pdF
    rw [e_219_55]
    cases t : S.testBit s
    · rw [t] at eh
      refine ⟨w, ⟨J1, J2, by simpa using J3⟩, ?_⟩
      simp only [e_219_0, e_219_1, e_219_3, e_219_5, e_219_8, e_219_9, e_219_12, e_219_13, e_219_14, e_219_15, e_219_18, e_219_21, e_219_22, e_219_24, e_219_25, e_219_28, e_219_31, e_219_32, e_219_35, e_219_36, e_219_39, e_219_42, e_219_45, e_219_47, e_219_49, e_219_52, e_219_53, e_219_57, e_219_59, e_219_62, e_219_63, e_219_65, e_219_68, e_219_71, e_219_72, e_219_75, e_219_76, e_219_77, e_219_80, e_219_81, e_219_82, e_219_83, e_219_86, e_219_87, e_219_88, e_219_90, e_219_91, e_219_92, e_219_93, e_219_94, e_219_95, e_219_96, e_219_99, e_219_102, e_219_104, e_219_106, e_219_107, e_219_108, e_219_109, e_219_110, e_219_111, e_219_112, e_219_115, e_219_116, e_219_119, e_219_122, e_219_125, e_219_128, e_219_131, e_219_134, e_219_135, e_219_138, e_219_139, e_219_140, Option.bind_some, Option.bind_none, m_kt, m_kn, Option.toList_some, Option.toList_none, List.nil_append, List.cons_append, List.append_nil, ltn, ite_not, ↓reduceIte, true_or, or_true, nP1, oI_s, oI_n, bI_f, bI_t, i1_0, i0_0, Bool.false_eq_true, not_true_eq_false, not_false_eq_true, c1, eh]
    · rw [t] at eh
      obtain ⟨w1, w2⟩ := st_wo S hS s hs t
      have bw := hb (wo S s) (by omega)
      have gS : m_ai (hPd h w) 75 (nI S) = some (nI x) := by rw [ai_n (g75 w) hS (by decide), J1]
      have gw : m_ai (hPd h w) 75 (nI (wo S s)) = some (nI (b (wo S s))) := by rw [ai_n (g75 w) (by omega) (by decide), J2 _ (by omega), hv _ (by omega)]
      refine ⟨upd w S (nI (max x (b (wo S s) + oW W s p))), ⟨by simp only [↓reduceIte]; exact pk_us, fun T hT => (pk_un (by omega)).trans (J2 T hT), by simp only [↓reduceIte]; omega⟩, ?_⟩
      simp only [e_219_0, e_219_1, e_219_3, e_219_5, e_219_8, e_219_9, e_219_12, e_219_13, e_219_14, e_219_15, e_219_18, e_219_21, e_219_22, e_219_24, e_219_25, e_219_28, e_219_31, e_219_32, e_219_35, e_219_36, e_219_39, e_219_42, e_219_45, e_219_47, e_219_49, e_219_52, e_219_53, e_219_57, e_219_59, e_219_62, e_219_63, e_219_65, e_219_68, e_219_71, e_219_72, e_219_75, e_219_76, e_219_77, e_219_80, e_219_81, e_219_82, e_219_83, e_219_86, e_219_87, e_219_88, e_219_90, e_219_91, e_219_92, e_219_93, e_219_94, e_219_95, e_219_96, e_219_99, e_219_102, e_219_104, e_219_106, e_219_107, e_219_108, e_219_109, e_219_110, e_219_111, e_219_112, e_219_115, e_219_116, e_219_119, e_219_122, e_219_125, e_219_128, e_219_131, e_219_134, e_219_135, e_219_138, e_219_139, e_219_140, Option.bind_some, Option.bind_none, m_kt, m_kn, Option.toList_some, Option.toList_none, List.nil_append, List.cons_append, List.append_nil, ltn, ite_not, ↓reduceIte, true_or, or_true, nP1, oI_s, oI_n, bI_f, bI_t, i1_0, i0_0, Bool.false_eq_true, not_true_eq_false, not_false_eq_true, c1, eh, gM18 (H1 w).1, gM1 (H1 w).1, gS, shl_nI, w1, gw, n30, nL247, nA, ga, mxn (show x < 2 ^ 31 by omega) (show b (wo S s) + oW W s p < 2 ^ 31 by omega), s75 w S _ hS]) (b S) v ⟨hv S (Nat.le_refl _), fun _ _ => rfl, by have := hb S hS; omega⟩
  obtain ⟨v', ⟨J1, J2, -⟩, e⟩ := e
  exact ⟨v', J1, J2, e⟩
theorem most48 (O : mO) (d : Nat) (H : MS h m W) (R : rng W) (S0 : SH h) {p : Nat} (hp : p < 30) {b : Nat → Nat} {B : Nat} (hB : B ≤ 100000) (hb : ∀ T, T < 64 → b T ≤ B) (q : Int32) : ∀ S, S < 64 → ∀ (v : Nat → Int32) (v4 : Value), (∀ T, T < 64 → v T = nI (if S < T then pdS (oW W) p b T else b T)) → ∃ v' w3 w4, (∀ T, T < 64 → v' T = nI (pdS (oW W) p b T)) ∧ ev O (d + 1) 219 48 [.ref 66, .int q, .int (nI p), .int (nI S), v4] [] (hPd h v) = ev O (d + 1) 219 23 [.ref 66, .int q, .int (nI (p + 1)), w3, w4] [] (hPd h v')
  | 0, hS, v, v4, hv => by
    have b0 : pdS (oW W) p b 0 = b 0 := by
      unfold pdS
      simp only [lp, Nat.zero_testBit, Bool.false_eq_true, ↓reduceIte]
    refine ⟨v, .int (nI 0), v4, fun T hT => ?_, ?_⟩
    · rw [hv T hT]
      by_cases z : 0 < T
      · rw [if_pos z]
      · rw [if_neg z, show T = 0 by omega, b0]
    · rw [e_219_48]
      simp only [e_219_0, e_219_1, e_219_3, e_219_5, e_219_8, e_219_9, e_219_12, e_219_13, e_219_14, e_219_15, e_219_18, e_219_21, e_219_22, e_219_24, e_219_25, e_219_28, e_219_31, e_219_32, e_219_35, e_219_36, e_219_39, e_219_42, e_219_45, e_219_47, e_219_49, e_219_52, e_219_53, e_219_57, e_219_59, e_219_62, e_219_63, e_219_65, e_219_68, e_219_71, e_219_72, e_219_75, e_219_76, e_219_77, e_219_80, e_219_81, e_219_82, e_219_83, e_219_86, e_219_87, e_219_88, e_219_90, e_219_91, e_219_92, e_219_93, e_219_94, e_219_95, e_219_96, e_219_99, e_219_102, e_219_104, e_219_106, e_219_107, e_219_108, e_219_109, e_219_110, e_219_111, e_219_112, e_219_115, e_219_116, e_219_119, e_219_122, e_219_125, e_219_128, e_219_131, e_219_134, e_219_135, e_219_138, e_219_139, e_219_140, Option.bind_some, Option.bind_none, m_kt, m_kn, Option.toList_some, Option.toList_none, List.nil_append, List.cons_append, List.append_nil, ltn, ite_not, ↓reduceIte, true_or, or_true, nP1, oI_s, oI_n, bI_f, bI_t, i1_0, i0_0, Bool.false_eq_true, not_true_eq_false, not_false_eq_true, (show (nI 0 ≤ 0) = True by decide)]
  | S + 1, hS, v, v4, hv => by
    obtain ⟨v1, q1, q2, e⟩ := most55 O d H R S0 hp hS hB hb (v := v) (fun T hT => by rw [hv T (by omega), if_neg (by omega)]) q
    obtain ⟨v', w3, w4, q3, e'⟩ := most48 O d H R S0 hp hB hb q S (by omega) v1 (.int 6) (fun T hT => by
      by_cases z : T = S + 1
      · subst z; rw [q1, if_pos (by omega)]
      · rw [q2 T z, hv T hT]
        by_cases y : S + 1 < T
        · rw [if_pos y, if_pos (by omega)]
        · rw [if_neg y, if_neg (by omega)])
    refine ⟨v', w3, w4, q3, ?_⟩
    have mm : nI (S + 1) + -1 = nI S := by rw [← nI_pred S]; exact (Int32.sub_eq_add_neg _ _).symm
    have c1 : ¬ nI (S + 1) ≤ 0 := nI_ge (a := 0) (by omega) (by omega)
    rw [e_219_48]
    simp only [e_219_0, e_219_1, e_219_3, e_219_5, e_219_8, e_219_9, e_219_12, e_219_13, e_219_14, e_219_15, e_219_18, e_219_21, e_219_22, e_219_24, e_219_25, e_219_28, e_219_31, e_219_32, e_219_35, e_219_36, e_219_39, e_219_42, e_219_45, e_219_47, e_219_49, e_219_52, e_219_53, e_219_57, e_219_59, e_219_62, e_219_63, e_219_65, e_219_68, e_219_71, e_219_72, e_219_75, e_219_76, e_219_77, e_219_80, e_219_81, e_219_82, e_219_83, e_219_86, e_219_87, e_219_88, e_219_90, e_219_91, e_219_92, e_219_93, e_219_94, e_219_95, e_219_96, e_219_99, e_219_102, e_219_104, e_219_106, e_219_107, e_219_108, e_219_109, e_219_110, e_219_111, e_219_112, e_219_115, e_219_116, e_219_119, e_219_122, e_219_125, e_219_128, e_219_131, e_219_134, e_219_135, e_219_138, e_219_139, e_219_140, Option.bind_some, Option.bind_none, m_kt, m_kn, Option.toList_some, Option.toList_none, List.nil_append, List.cons_append, List.append_nil, ltn, ite_not, ↓reduceIte, true_or, or_true, nP1, oI_s, oI_n, bI_f, bI_t, i1_0, i0_0, Bool.false_eq_true, not_true_eq_false, not_false_eq_true, c1]
    rw [e, e_219_55]
    simp only [e_219_0, e_219_1, e_219_3, e_219_5, e_219_8, e_219_9, e_219_12, e_219_13, e_219_14, e_219_15, e_219_18, e_219_21, e_219_22, e_219_24, e_219_25, e_219_28, e_219_31, e_219_32, e_219_35, e_219_36, e_219_39, e_219_42, e_219_45, e_219_47, e_219_49, e_219_52, e_219_53, e_219_57, e_219_59, e_219_62, e_219_63, e_219_65, e_219_68, e_219_71, e_219_72, e_219_75, e_219_76, e_219_77, e_219_80, e_219_81, e_219_82, e_219_83, e_219_86, e_219_87, e_219_88, e_219_90, e_219_91, e_219_92, e_219_93, e_219_94, e_219_95, e_219_96, e_219_99, e_219_102, e_219_104, e_219_106, e_219_107, e_219_108, e_219_109, e_219_110, e_219_111, e_219_112, e_219_115, e_219_116, e_219_119, e_219_122, e_219_125, e_219_128, e_219_131, e_219_134, e_219_135, e_219_138, e_219_139, e_219_140, Option.bind_some, Option.bind_none, m_kt, m_kn, Option.toList_some, Option.toList_none, List.nil_append, List.cons_append, List.append_nil, ltn, ite_not, ↓reduceIte, true_or, or_true, nP1, oI_s, oI_n, bI_f, bI_t, i1_0, i0_0, Bool.false_eq_true, not_true_eq_false, not_false_eq_true, (show ((6 : Int32) ≤ 6) = True by decide), mm]
    exact e'
theorem pdS_b {of : Nat → Nat → Nat} {k : Nat} (ho : ∀ s, s < 6 → of s k ≤ 99) {b : Nat → Nat} {B : Nat} (hb : ∀ T, T < 64 → b T ≤ B) {S : Nat} (hS : S < 64) : pdS of k b S ≤ B + 99 := by
  have key : ∀ n, n ≤ 6 → lp (fun s x => if S.testBit s = true then max x (b (wo S s) + of s k) else x) n (b S) ≤ B + 99 := by
    intro n
    induction n with
    | zero => intro _; have := hb S hS; exact Nat.le_trans this (by omega)
    | succ n ih =>
      intro hn
      have i := ih (by omega)
      rw [lp_s]
      split
      · rename_i t
        have q := (st_wo S hS n (by omega) t).2
        have q1 := hb (wo S n) (by omega)
        have q2 := ho n (by omega)
        omega
      · exact i
  exact key 6 (Nat.le_refl _)
theorem pdA_b (R : rng W) (c : Nat → Bool) : ∀ k, k ≤ 30 → ∀ S, S < 64 → pdA (oW W) c k S ≤ 99 * k
  | 0, _, S, _ => Nat.le_refl _
  | k + 1, hk, S, hS => by
    have ih := pdA_b R c k (by omega)
    have e : pdA (oW W) c (k + 1) = pdT (oW W) c k (pdA (oW W) c k) := rfl
    rw [e]
    unfold pdT
    split
    · have := pdS_b (of := oW W) (k := k) (fun s hs => (of_e R hs (by omega)).2) ih hS
      omega
    · have := ih S hS
      omega
theorem mostOf_ev (O : mO) (d : Nat) (H : MS h m W) (R : rng W) (S0 : SH h) {S : Nat} (hS : S < 64) : ∃ v, ev O (d + 1) 219 0 [.ref 66, .int (nI S), mJ, mJ, mJ] [] h = some (.inl (some (.int (nI (pdA (oW W) (bt (m 19)) (pN W) S)))), hPd h v) := by
  have hN := pN_le R
  obtain ⟨f0, e75⟩ := S0.at (b := 75) (n := 64) (by decide)
  have h0 : hPd h f0 = h := by unfold hPd; rw [hset e75]
  have H1 : ∀ v, MS (hPd h v) m W := fun v => sc_MS (sc_hPd v) H
  have g75 : ∀ v, (hPd h v).1[75]? = some (aI 64 v) := fun v => hget e75
  have s75 : ∀ v j x, j < 64 → m_si (hPd h v) 75 (nI j) x = some (hPd h (upd v j x)) := fun v j x hj => by
    rw [si_n (g75 v) hj (by decide)]; unfold hPd; rw [List.set_set]
  have e1 := lp_run (F := fun k v => ev O (d + 1) 219 2 [.ref 66, .int (nI S), .int (nI k), mJ, mJ] [] (hPd h v)) (f := fun k v => upd v k 0) (n := 64) (fun k v hk => by
    have c1 : ¬ (64 : Int32) ≤ nI k := nI_ge (b := 64) hk (by omega)
    rw [e_219_2]
    simp only [e_219_0, e_219_1, e_219_3, e_219_5, e_219_8, e_219_9, e_219_12, e_219_13, e_219_14, e_219_15, e_219_18, e_219_21, e_219_22, e_219_24, e_219_25, e_219_28, e_219_31, e_219_32, e_219_35, e_219_36, e_219_39, e_219_42, e_219_45, e_219_47, e_219_49, e_219_52, e_219_53, e_219_57, e_219_59, e_219_62, e_219_63, e_219_65, e_219_68, e_219_71, e_219_72, e_219_75, e_219_76, e_219_77, e_219_80, e_219_81, e_219_82, e_219_83, e_219_86, e_219_87, e_219_88, e_219_90, e_219_91, e_219_92, e_219_93, e_219_94, e_219_95, e_219_96, e_219_99, e_219_102, e_219_104, e_219_106, e_219_107, e_219_108, e_219_109, e_219_110, e_219_111, e_219_112, e_219_115, e_219_116, e_219_119, e_219_122, e_219_125, e_219_128, e_219_131, e_219_134, e_219_135, e_219_138, e_219_139, e_219_140, Option.bind_some, Option.bind_none, m_kt, m_kn, Option.toList_some, Option.toList_none, List.nil_append, List.cons_append, List.append_nil, ltn, ite_not, ↓reduceIte, true_or, or_true, nP1, oI_s, oI_n, bI_f, bI_t, i1_0, i0_0, Bool.false_eq_true, not_true_eq_false, not_false_eq_true, c1, gM18 (H1 v).1, s75 v k _ hk]) f0
  have z1 : ∀ n, ∀ T, T < n → lp (fun k v => upd v k (0 : Int32)) n f0 T = 0 := by
    intro n
    induction n with
    | zero => intro T hT; omega
    | succ n ih =>
      intro T hT
      rw [lp_s]
      by_cases z : T = n
      · subst z; exact pk_us
      · exact (pk_un (by omega)).trans (ih T (by omega))
  have e2 := lp_runJ (ν := (Nat → Int32) × Value × Value) (F := fun p (_ : Nat → Nat) v => ev O (d + 1) 219 23 [.ref 66, .int (nI S), .int (nI p), v.2.1, v.2.2] [] (hPd h v.1)) (f := pdT (oW W) (bt (m 19))) (n := pN W) (fun p b v => (∀ T, T < 64 → v.1 T = nI (b T)) ∧ b = pdA (oW W) (bt (m 19)) p) (fun p b v hp J => by
    obtain ⟨v, v3, v4⟩ := v
    obtain ⟨J1, J2⟩ := J
    have c1 : ¬ nI (pN W) ≤ nI p := nI_ge hp (by omega)
    have J2' : pdT (oW W) (bt (m 19)) p b = pdA (oW W) (bt (m 19)) (p + 1) := by rw [J2]; rfl
    have eh := has_ev O d (hPd h v) (m 19) (show p < 32 by omega)
    rw [e_219_23]
    cases t : bt (m 19) p
    · rw [t] at eh
      refine ⟨(v, v3, v4), ⟨by unfold pdT; rw [if_neg (by rw [t]; decide)]; exact J1, J2'⟩, ?_⟩
      simp only [e_219_0, e_219_1, e_219_3, e_219_5, e_219_8, e_219_9, e_219_12, e_219_13, e_219_14, e_219_15, e_219_18, e_219_21, e_219_22, e_219_24, e_219_25, e_219_28, e_219_31, e_219_32, e_219_35, e_219_36, e_219_39, e_219_42, e_219_45, e_219_47, e_219_49, e_219_52, e_219_53, e_219_57, e_219_59, e_219_62, e_219_63, e_219_65, e_219_68, e_219_71, e_219_72, e_219_75, e_219_76, e_219_77, e_219_80, e_219_81, e_219_82, e_219_83, e_219_86, e_219_87, e_219_88, e_219_90, e_219_91, e_219_92, e_219_93, e_219_94, e_219_95, e_219_96, e_219_99, e_219_102, e_219_104, e_219_106, e_219_107, e_219_108, e_219_109, e_219_110, e_219_111, e_219_112, e_219_115, e_219_116, e_219_119, e_219_122, e_219_125, e_219_128, e_219_131, e_219_134, e_219_135, e_219_138, e_219_139, e_219_140, Option.bind_some, Option.bind_none, m_kt, m_kn, Option.toList_some, Option.toList_none, List.nil_append, List.cons_append, List.append_nil, ltn, ite_not, ↓reduceIte, true_or, or_true, nP1, oI_s, oI_n, bI_f, bI_t, i1_0, i0_0, Bool.false_eq_true, not_true_eq_false, not_false_eq_true, (H1 v).isc, panes_ev O d (H1 v).w R, c1, gM19 (H1 v).1, eh]
    · rw [t] at eh
      have hb := pdA_b R (bt (m 19)) p (by omega)
      rw [← J2] at hb
      obtain ⟨v', w3, w4, q, e⟩ := most48 O d H R S0 (show p < 30 by omega) (B := 99 * p) (by omega) hb (nI S) 63 (by omega) v v4 (fun T hT => by rw [if_neg (by omega)]; exact J1 T hT)
      refine ⟨(v', w3, w4), ⟨by unfold pdT; rw [if_pos t]; exact q, J2'⟩, ?_⟩
      simp only [e_219_0, e_219_1, e_219_3, e_219_5, e_219_8, e_219_9, e_219_12, e_219_13, e_219_14, e_219_15, e_219_18, e_219_21, e_219_22, e_219_24, e_219_25, e_219_28, e_219_31, e_219_32, e_219_35, e_219_36, e_219_39, e_219_42, e_219_45, e_219_47, e_219_49, e_219_52, e_219_53, e_219_57, e_219_59, e_219_62, e_219_63, e_219_65, e_219_68, e_219_71, e_219_72, e_219_75, e_219_76, e_219_77, e_219_80, e_219_81, e_219_82, e_219_83, e_219_86, e_219_87, e_219_88, e_219_90, e_219_91, e_219_92, e_219_93, e_219_94, e_219_95, e_219_96, e_219_99, e_219_102, e_219_104, e_219_106, e_219_107, e_219_108, e_219_109, e_219_110, e_219_111, e_219_112, e_219_115, e_219_116, e_219_119, e_219_122, e_219_125, e_219_128, e_219_131, e_219_134, e_219_135, e_219_138, e_219_139, e_219_140, Option.bind_some, Option.bind_none, m_kt, m_kn, Option.toList_some, Option.toList_none, List.nil_append, List.cons_append, List.append_nil, ltn, ite_not, ↓reduceIte, true_or, or_true, nP1, oI_s, oI_n, bI_f, bI_t, i1_0, i0_0, Bool.false_eq_true, not_true_eq_false, not_false_eq_true, (H1 v).isc, panes_ev O d (H1 v).w R, c1, gM19 (H1 v).1, eh]
      exact e) (fun _ => 0) (lp (fun k v => upd v k (0 : Int32)) 64 f0, mJ, mJ) ⟨fun T hT => z1 64 T hT, rfl⟩
  obtain ⟨⟨v, w3, w4⟩, ⟨J1, J2⟩, e2⟩ := e2
  simp only at J1 J2
  refine ⟨v, ?_⟩
  simp only [nI_0] at e1 e2
  rw [h0] at e1
  have gS : m_ai (hPd h v) 75 (nI S) = some (nI (pdA (oW W) (bt (m 19)) (pN W) S)) := by rw [ai_n (g75 v) hS (by decide), J1 S hS]; rfl
  simp only [e_219_0, e_219_1, e_219_3, e_219_5, e_219_8, e_219_9, e_219_12, e_219_13, e_219_14, e_219_15, e_219_18, e_219_21, e_219_22, e_219_24, e_219_25, e_219_28, e_219_31, e_219_32, e_219_35, e_219_36, e_219_39, e_219_42, e_219_45, e_219_47, e_219_49, e_219_52, e_219_53, e_219_57, e_219_59, e_219_62, e_219_63, e_219_65, e_219_68, e_219_71, e_219_72, e_219_75, e_219_76, e_219_77, e_219_80, e_219_81, e_219_82, e_219_83, e_219_86, e_219_87, e_219_88, e_219_90, e_219_91, e_219_92, e_219_93, e_219_94, e_219_95, e_219_96, e_219_99, e_219_102, e_219_104, e_219_106, e_219_107, e_219_108, e_219_109, e_219_110, e_219_111, e_219_112, e_219_115, e_219_116, e_219_119, e_219_122, e_219_125, e_219_128, e_219_131, e_219_134, e_219_135, e_219_138, e_219_139, e_219_140, Option.bind_some, Option.bind_none, m_kt, m_kn, Option.toList_some, Option.toList_none, List.nil_append, List.cons_append, List.append_nil, ltn, ite_not, ↓reduceIte, true_or, or_true, nP1, oI_s, oI_n, bI_f, bI_t, i1_0, i0_0, Bool.false_eq_true, not_true_eq_false, not_false_eq_true]
  refine e1.trans ?_
  rw [e_219_2]
  simp only [e_219_0, e_219_1, e_219_3, e_219_5, e_219_8, e_219_9, e_219_12, e_219_13, e_219_14, e_219_15, e_219_18, e_219_21, e_219_22, e_219_24, e_219_25, e_219_28, e_219_31, e_219_32, e_219_35, e_219_36, e_219_39, e_219_42, e_219_45, e_219_47, e_219_49, e_219_52, e_219_53, e_219_57, e_219_59, e_219_62, e_219_63, e_219_65, e_219_68, e_219_71, e_219_72, e_219_75, e_219_76, e_219_77, e_219_80, e_219_81, e_219_82, e_219_83, e_219_86, e_219_87, e_219_88, e_219_90, e_219_91, e_219_92, e_219_93, e_219_94, e_219_95, e_219_96, e_219_99, e_219_102, e_219_104, e_219_106, e_219_107, e_219_108, e_219_109, e_219_110, e_219_111, e_219_112, e_219_115, e_219_116, e_219_119, e_219_122, e_219_125, e_219_128, e_219_131, e_219_134, e_219_135, e_219_138, e_219_139, e_219_140, Option.bind_some, Option.bind_none, m_kt, m_kn, Option.toList_some, Option.toList_none, List.nil_append, List.cons_append, List.append_nil, ltn, ite_not, ↓reduceIte, true_or, or_true, nP1, oI_s, oI_n, bI_f, bI_t, i1_0, i0_0, Bool.false_eq_true, not_true_eq_false, not_false_eq_true, (show ((64 : Int32) ≤ nI 64) = True by decide)]
  refine e2.trans ?_
  rw [e_219_23]
  simp only [e_219_0, e_219_1, e_219_3, e_219_5, e_219_8, e_219_9, e_219_12, e_219_13, e_219_14, e_219_15, e_219_18, e_219_21, e_219_22, e_219_24, e_219_25, e_219_28, e_219_31, e_219_32, e_219_35, e_219_36, e_219_39, e_219_42, e_219_45, e_219_47, e_219_49, e_219_52, e_219_53, e_219_57, e_219_59, e_219_62, e_219_63, e_219_65, e_219_68, e_219_71, e_219_72, e_219_75, e_219_76, e_219_77, e_219_80, e_219_81, e_219_82, e_219_83, e_219_86, e_219_87, e_219_88, e_219_90, e_219_91, e_219_92, e_219_93, e_219_94, e_219_95, e_219_96, e_219_99, e_219_102, e_219_104, e_219_106, e_219_107, e_219_108, e_219_109, e_219_110, e_219_111, e_219_112, e_219_115, e_219_116, e_219_119, e_219_122, e_219_125, e_219_128, e_219_131, e_219_134, e_219_135, e_219_138, e_219_139, e_219_140, Option.bind_some, Option.bind_none, m_kt, m_kn, Option.toList_some, Option.toList_none, List.nil_append, List.cons_append, List.append_nil, ltn, ite_not, ↓reduceIte, true_or, or_true, nP1, oI_s, oI_n, bI_f, bI_t, i1_0, i0_0, Bool.false_eq_true, not_true_eq_false, not_false_eq_true, (H1 v).isc, panes_ev O d (H1 v).w R, Int32.le_refl, gM18 (H1 v).1, gS]
end MostM
