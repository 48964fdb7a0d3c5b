/-! The law's loop; its start -/
theorem W00_e : W00 = szW (upd z0 6 10) 3 3 := szW_cl _ _ _
theorem W00_p {q k : Nat} (hq : q < 30) (hk : k < 6) : W00 (7 + 6 * q + k) = if k = 0 then 4 else if k = 1 then 10 else 0 := by rw [W00_e]; exact szW_p hq hk
theorem W00_o {i : Nat} (h1 : 187 ≤ i) (h2 : i < 427) : W00 i = 0 := by
  unfold W00 clW
  rw [if_neg (by omega), if_pos (by omega), if_neg (by omega)]
theorem rng00 : rng W00 := by
  have e0 : wN W00 = 3 := by decide
  have e1 : gN W00 = 3 := by decide
  have e2 : kN W00 = 0 := by decide
  have e5 : sN W00 = 0 := by decide
  refine ⟨⟨⟨by rw [e0]; decide, by rw [e0]; decide, by rw [e0]; decide⟩, ⟨by rw [e1]; decide, by rw [e1]; decide, by rw [e1]; decide⟩, ⟨by rw [e2]; decide, by rw [e2]; decide⟩, ⟨by rw [e5]; decide, by rw [e5]; decide⟩, ⟨by decide, by decide⟩, ⟨by decide, by decide⟩⟩, fun q hq => ?_, fun k hk => absurd hk (by rw [e2]; omega), fun i hi => ?_⟩
  · have q0 := W00_p hq (k := 0) (by omega)
    rw [Nat.add_zero] at q0
    rw [q0, W00_p hq (by omega), W00_p hq (by omega), W00_p hq (by omega), W00_p hq (by omega), W00_p hq (by omega)]
    exact ⟨⟨by decide, by decide⟩, ⟨by decide, by decide⟩, ⟨by decide, by decide⟩, ⟨by decide, by decide⟩, ⟨by decide, by decide⟩, ⟨by decide, by decide⟩⟩
  · rw [W00_o (by omega) (by omega)]
    exact ⟨by decide, by decide⟩
theorem CA00 {h : mH} {a : Nat} (c : ∀ k, k < 9 → h.1[a + k]? = (cityL a)[k]?) : CA h a W00 := by
  have e0 : wN W00 = 3 := by decide
  have e1 : gN W00 = 3 := by decide
  have e2 : kN W00 = 0 := by decide
  refine ⟨(c 0 (by omega)).trans (congrArg some (oC_congr fun k hk => ?_)), fun k hk => ?_, ?_, ?_⟩
  · have hk' : k = 0 ∨ k = 1 ∨ k = 2 ∨ k = 3 ∨ k = 4 ∨ k = 5 ∨ k = 12 ∨ k = 14 ∨ k = 16 ∨ k = 17 := by omega
    rcases hk' with rfl | rfl | rfl | rfl | rfl | rfl | rfl | rfl | rfl | rfl
    · show nI 3 = nI (wN W00); rw [e0]
    · show nI 3 = nI (gN W00); rw [e1]
    · show nI (3 * 3) = nI (pN W00); unfold pN; rw [e0, e1]
    · show allI 3 3 = allI (wN W00) (gN W00); rw [e0, e1]
    · show lEd 3 3 = lEd (wN W00) (gN W00); rw [e0, e1]
    · show rEd 3 3 = rEd (wN W00) (gN W00); rw [e0, e1]
    · rfl
    · rfl
    · rfl
    · rfl
  · have hk' : k = 0 ∨ k = 1 ∨ k = 2 ∨ k = 3 ∨ k = 4 ∨ k = 5 := by omega
    have c1 := c (1 + k) (by omega)
    rw [← Nat.add_assoc] at c1
    rcases hk' with rfl | rfl | rfl | rfl | rfl | rfl
    all_goals
      refine ⟨_, c1, fun q hq => ?_⟩
      rw [W00_p hq (by omega)]
      exact if_pos hq
  · exact ⟨_, c 7 (by omega), fun i hi => absurd hi (by rw [e2]; omega)⟩
  · refine ⟨_, c 8 (by omega), fun i hi => ?_⟩
    rw [W00_o (by omega) (by omega)]
    exact if_pos hi
theorem SH00 : SH H84 := by
  refine ⟨fun b n hm => ?_, ⟨1000, rfl⟩, ⟨0, 0, 0, rfl⟩, ⟨0, rfl⟩, ⟨z0L, rfl⟩, ⟨z0L, rfl⟩, ⟨z0L, rfl⟩⟩
  simp only [tab, List.mem_cons, Prod.mk.injEq, List.not_mem_nil, or_false] at hm
  rcases hm with ⟨rfl, rfl⟩ | ⟨rfl, rfl⟩ | ⟨rfl, rfl⟩ | ⟨rfl, rfl⟩ | ⟨rfl, rfl⟩ | ⟨rfl, rfl⟩ | ⟨rfl, rfl⟩ | ⟨rfl, rfl⟩ | ⟨rfl, rfl⟩ | ⟨rfl, rfl⟩ | ⟨rfl, rfl⟩ | ⟨rfl, rfl⟩ | ⟨rfl, rfl⟩ | ⟨rfl, rfl⟩ | ⟨rfl, rfl⟩ | ⟨rfl, rfl⟩ | ⟨rfl, rfl⟩ | ⟨rfl, rfl⟩ | ⟨rfl, rfl⟩ | ⟨rfl, rfl⟩ | ⟨rfl, rfl⟩ | ⟨rfl, rfl⟩ | ⟨rfl, rfl⟩
  all_goals exact ⟨z0, rfl⟩
theorem INV00 : INV H84 := by
  have c1 : CA H84 1 W00 := CA00 (fun k hk => by
    have hk' : k = 0 ∨ k = 1 ∨ k = 2 ∨ k = 3 ∨ k = 4 ∨ k = 5 ∨ k = 6 ∨ k = 7 ∨ k = 8 := by omega
    rcases hk' with rfl | rfl | rfl | rfl | rfl | rfl | rfl | rfl | rfl <;> rfl)
  have c2 : CA H84 10 W00 := CA00 (fun k hk => by
    have hk' : k = 0 ∨ k = 1 ∨ k = 2 ∨ k = 3 ∨ k = 4 ∨ k = 5 ∨ k = 6 ∨ k = 7 ∨ k = 8 := by omega
    rcases hk' with rfl | rfl | rfl | rfl | rfl | rfl | rfl | rfl | rfl <;> rfl)
  have c3 : CA H84 19 W00 := CA00 (fun k hk => by
    have hk' : k = 0 ∨ k = 1 ∨ k = 2 ∨ k = 3 ∨ k = 4 ∨ k = 5 ∨ k = 6 ∨ k = 7 ∨ k = 8 := by omega
    rcases hk' with rfl | rfl | rfl | rfl | rfl | rfl | rfl | rfl | rfl <;> rfl)
  have lf : ∀ a, (a = 28 ∨ a = 35 ∨ a = 42) → LF H84 a := fun a ha => by
    rcases ha with rfl | rfl | rfl
    all_goals exact ⟨-1, 0, z0, z0, z0, z0, rfl, rfl, rfl, rfl, rfl⟩
  refine ⟨(1, 10, 28, 35, -1, 0), m00, W00, z0, 0, 0, 0, z0, z0, z0, z0, z0, ⟨⟨rfl, .inl ⟨rfl, rfl⟩, .inl ⟨rfl, rfl⟩⟩, ⟨c1, rng00, W00, c2⟩, ⟨.inr ⟨rfl, 0, rfl⟩, lf 28 (by omega), lf 35 (by omega), lf 42 (by omega)⟩, ⟨⟨0, 0, -1, rfl⟩, rfl, by omega⟩, ⟨rfl, rfl, rfl, rfl⟩, .inl ⟨rfl, W00, c3⟩⟩, ⟨⟨rfl, rfl⟩, ⟨rfl, rfl, rfl, rfl⟩, rfl, ⟨z0, rfl⟩, rfl, rfl⟩, PR_0 _ (by omega) _ _ _ _, SH00, rfl⟩
section Loop
variable {n : Nat} {S : Nat → Int32}
theorem le6 {i n : Nat} (hi : i < 2 ^ 29) (hn : n < 2 ^ 29) : (nI i ≤ nI n - 6) = (i + 6 ≤ n) := by
  apply propext
  have h1 := nI_toInt (show i < 2 ^ 31 by omega)
  have h2 := pk_sub_toInt (a := n) (b := 6) (by omega) (by omega)
  have h3 : nI n - 6 = nI n - nI 6 := rfl
  rw [i_le, h1, h3, h2]
  omega
theorem law_step (O : mO) (d : Nat) (XC : CTX O) (XM : MTX O) (XL : LTX O) (XT : MTL O) (PL : PLC O) (sL : m_lnO O 0 = some (nI n)) (hn : n ≤ 3072) (sA : ∀ j, j < n → m_aiO O 0 (nI j) = some (S j)) {h : mH} {i : Nat} (hi : i + 6 ≤ n) (Iv : INV h) (v5 v6 : Value) : ∃ h' w5 w6, ev O (d + 40) 291 23 [.retAddr 0, .ref 0, .ref 66, .ref 83, .int (nI i), v5, v6] [] h = ev O (d + 40) 291 23 [.retAddr 0, .ref 0, .ref 66, .ref 83, .int (nI (i + 6)), w5, w6] [] h' ∧ INV h' ∧ h'.2 ≤ h.2 + 1 := by
  obtain ⟨k, hk, ek⟩ := and63 (S i)
  have c1 : (nI i ≤ nI n - 6) = True := by rw [le6 (by omega) (by omega)]; exact eq_true hi
  have t1 : ((nI k).toInt < 0) = False := by rw [nI_toInt (by omega)]; exact eq_false (by omega)
  have t2 : ((nI k).toInt - 0).toNat = k := by rw [nI_toInt (by omega)]; omega
  have e0 : ev O (d + 40) 291 23 [.retAddr 0, .ref 0, .ref 66, .ref 83, .int (nI i), v5, v6] [] h = ev O (d + 40) 291 (List.getD [216, 289, 314, 358, 402, 415, 483, 551, 619, 675, 743, 830, 886, 966, 1046, 1121, 1189, 1233, 1313, 1381, 1449, 1529, 1585, 1677, 1702, 1770, 1838, 1934, 2038, 2118, 2186, 2199, 2224, 2237, 2250, 2263, 2331, 2344, 2355, 2368] k 2393) [.retAddr 0, .ref 0, .ref 66, .ref 83, .int (nI i), v5, v6] [] h := by
    rw [e_291_23]
    simp only [e_291_25, e_291_26, e_291_27, e_291_29, e_291_30, e_291_33, e_291_34, e_291_36, e_291_37, e_291_39, Option.bind_some, Option.bind_none, m_kt, m_kn, Option.toList_some, Option.toList_none, List.nil_append, List.cons_append, List.append_nil, ltn, ite_not, ↓reduceIte, true_or, or_true, nP1, oI_s, oI_n, bI_f, bI_t, i1_0, i0_0, Bool.false_eq_true, not_true_eq_false, not_false_eq_true, sL, c1, sA i (by omega), ek]
    rw [e_291_40]
    simp only [t1, t2, ↓reduceIte]
  rw [e0]
  have hc : k = 0 ∨ k = 1 ∨ k = 2 ∨ k = 3 ∨ k = 4 ∨ k = 5 ∨ k = 6 ∨ k = 7 ∨ k = 8 ∨ k = 9 ∨ k = 10 ∨ k = 11 ∨ k = 12 ∨ k = 13 ∨ k = 14 ∨ k = 15 ∨ k = 16 ∨ k = 17 ∨ k = 18 ∨ k = 19 ∨ k = 20 ∨ k = 21 ∨ k = 22 ∨ k = 23 ∨ k = 24 ∨ k = 25 ∨ k = 26 ∨ k = 27 ∨ k = 28 ∨ k = 29 ∨ k = 30 ∨ k = 31 ∨ k = 32 ∨ k = 33 ∨ k = 34 ∨ k = 35 ∨ k = 36 ∨ k = 37 ∨ k = 38 ∨ k = 39 ∨ 40 ≤ k := by omega
  rcases hc with rfl | rfl | rfl | rfl | rfl | rfl | rfl | rfl | rfl | rfl | rfl | rfl | rfl | rfl | rfl | rfl | rfl | rfl | rfl | rfl | rfl | rfl | rfl | rfl | rfl | rfl | rfl | rfl | rfl | rfl | rfl | rfl | rfl | rfl | rfl | rfl | rfl | rfl | rfl | rfl | hc
  · exact K_feed O d XC XM XL XT PL sA hi Iv v5 v6
  · exact K_end O d XC XM XL XT PL sA hi Iv v5 v6
  · exact K_city O d XC XM XL XT PL sA hi Iv v5 v6
  · exact K_shame O d XC XM XL XT PL sA hi Iv v5 v6
  · exact K_fault O d XC XM XL XT PL sA hi Iv v5 v6
  · exact K_pane O d XC XM XL XT PL sA hi Iv v5 v6
  · exact K_cart O d XC XM XL XT PL sA hi Iv v5 v6
  · exact K_strew O d XC XM XL XT PL sA hi Iv v5 v6
  · exact K_runs O d XC XM XL XT PL sA hi Iv v5 v6
  · exact K_load O d XC XM XL XT PL sA hi Iv v5 v6
  · exact K_holds O d XC XM XL XT PL sA hi Iv v5 v6
  · exact K_breaks O d XC XM XL XT PL sA hi Iv v5 v6
  · exact K_light O d XC XM XL XT PL sA hi Iv v5 v6
  · exact K_bill O d XC XM XL XT PL sA hi Iv v5 v6
  · exact K_seen O d XC XM XL XT PL sA hi Iv v5 v6
  · exact K_fined O d XC XM XL XT PL sA hi Iv v5 v6
  · exact K_seer O d XC XM XL XT PL sA hi Iv v5 v6
  · exact K_offer O d XC XM XL XT PL sA hi Iv v5 v6
  · exact K_sale O d XC XM XL XT PL sA hi Iv v5 v6
  · exact K_lost O d XC XM XL XT PL sA hi Iv v5 v6
  · exact K_share O d XC XM XL XT PL sA hi Iv v5 v6
  · exact K_weakest O d XC XM XL XT PL sA hi Iv v5 v6
  · exact K_strengthen O d XC XM XL XT PL sA hi Iv v5 v6
  · exact K_spread O d XC XM XL XT PL sA hi Iv v5 v6
  · exact K_blow O d XC XM XL XT PL sA hi Iv v5 v6
  · exact K_would O d XC XM XL XT PL sA hi Iv v5 v6
  · exact K_trace O d XC XM XL XT PL sA hi Iv v5 v6
  · exact K_parade O d XC XM XL XT PL sA hi Iv v5 v6
  · exact K_heaviest O d XC XM XL XT PL sA hi Iv v5 v6
  · exact K_frost O d XC XM XL XT PL sA hi Iv v5 v6
  · exact K_odds O d XC XM XL XT PL sA hi Iv v5 v6
  · exact K_may O d XC XM XL XT PL sA hi Iv v5 v6
  · exact K_round O d XC XM XL XT PL sA hi Iv v5 v6
  · exact K_mend O d XC XM XL XT PL sA hi Iv v5 v6
  · exact K_rounds O d XC XM XL XT PL sA hi Iv v5 v6
  · exact K_lamps O d XC XM XL XT PL sA hi Iv v5 v6
  · exact K_undo O d XC XM XL XT PL sA hi Iv v5 v6
  · exact K_image O d XC XM XL XT PL sA hi Iv v5 v6
  · exact K_back O d XC XM XL XT PL sA hi Iv v5 v6
  · exact K_count O d XC XM XL XT PL sA hi Iv v5 v6
  · have e1 : List.getD [216, 289, 314, 358, 402, 415, 483, 551, 619, 675, 743, 830, 886, 966, 1046, 1121, 1189, 1233, 1313, 1381, 1449, 1529, 1585, 1677, 1702, 1770, 1838, 1934, 2038, 2118, 2186, 2199, 2224, 2237, 2250, 2263, 2331, 2344, 2355, 2368] k 2393 = 2393 := by
      rw [List.getD_eq_getElem?_getD, List.getElem?_eq_none (by simp only [List.length_cons, List.length_nil]; omega)]
      rfl
    rw [e1]
    refine ⟨h, v5, v6, ?_, Iv, Nat.le_succ _⟩
    simp only [e_291_2393, e_291_2396, Option.bind_some, Option.bind_none, m_kt, m_kn, Option.toList_some, Option.toList_none, List.nil_append, List.cons_append, List.append_nil, ltn, ite_not, ↓reduceIte, true_or, or_true, nP1, oI_s, oI_n, bI_f, bI_t, i1_0, i0_0, Bool.false_eq_true, not_true_eq_false, not_false_eq_true, (show ∀ k : Nat, nI k + 6 = nI (k + 6) from fun k => nI_add k 6)]
theorem law_run (O : mO) (d : Nat) (XC : CTX O) (XM : MTX O) (XL : LTX O) (XT : MTL O) (PL : PLC O) (sL : m_lnO O 0 = some (nI n)) (hn : n ≤ 3072) (sA : ∀ j, j < n → m_aiO O 0 (nI j) = some (S j)) : ∀ (k i : Nat) (h : mH) (v5 v6 : Value), INV h → i ≤ n + 6 → n < i + 6 * k + 6 → ∃ h', ev O (d + 40) 291 23 [.retAddr 0, .ref 0, .ref 66, .ref 83, .int (nI i), v5, v6] [] h = some (.inl (some (.int (1))), h') ∧ INV h' ∧ h'.2 ≤ h.2 + k := by
  intro k
  induction k with
  | zero =>
    intro i h v5 v6 Iv hi hk
    have c1 : (nI i ≤ nI n - 6) = False := by rw [le6 (by omega) (by omega)]; exact eq_false (by omega)
    refine ⟨h, ?_, Iv, Nat.le_refl _⟩
    rw [e_291_23]
    simp only [e_291_25, e_291_26, e_291_27, e_291_29, e_291_30, e_291_33, e_291_34, e_291_36, e_291_37, e_291_39, e_291_2399, e_291_2400, Option.bind_some, Option.bind_none, m_kt, m_kn, Option.toList_some, Option.toList_none, List.nil_append, List.cons_append, List.append_nil, ltn, ite_not, ↓reduceIte, true_or, or_true, nP1, oI_s, oI_n, bI_f, bI_t, i1_0, i0_0, Bool.false_eq_true, not_true_eq_false, not_false_eq_true, sL, c1, o01]
  | succ k ih =>
    intro i h v5 v6 Iv hi hk
    by_cases c : i + 6 ≤ n
    · obtain ⟨h1, w5, w6, e1, I1, l1⟩ := law_step O d XC XM XL XT PL sL hn sA c Iv v5 v6
      obtain ⟨h2, e2, I2, l2⟩ := ih (i + 6) h1 w5 w6 I1 (by omega) (by omega)
      exact ⟨h2, e1.trans e2, I2, by omega⟩
    · have c1 : (nI i ≤ nI n - 6) = False := by rw [le6 (by omega) (by omega)]; exact eq_false c
      refine ⟨h, ?_, Iv, Nat.le_add_right _ _⟩
      rw [e_291_23]
      simp only [e_291_25, e_291_26, e_291_27, e_291_29, e_291_30, e_291_33, e_291_34, e_291_36, e_291_37, e_291_39, e_291_2399, e_291_2400, Option.bind_some, Option.bind_none, m_kt, m_kn, Option.toList_some, Option.toList_none, List.nil_append, List.cons_append, List.append_nil, ltn, ite_not, ↓reduceIte, true_or, or_true, nP1, oI_s, oI_n, bI_f, bI_t, i1_0, i0_0, Bool.false_eq_true, not_true_eq_false, not_false_eq_true, sL, c1, o01]
end Loop
/-! How much room the cells take -/
theorem CA_sz {h : mH} {a b : Nat} {W : WD} {c : mC} (H : CA h a W) (hb : a ≤ b ∧ b ≤ a + 8) (e : h.1[b]? = some c) : s_cs c ≤ 2160 := by
  obtain ⟨k, rfl⟩ : ∃ k, b = a + k := ⟨b - a, by omega⟩
  by_cases k0 : k = 0
  · subst k0
    rw [Nat.add_zero, H.1] at e
    cases e
    exact Nat.le_of_ble_eq_true rfl
  by_cases k6 : k ≤ 6
  · obtain ⟨f, q, -⟩ := H.2.1 (k - 1) (by omega)
    rw [show a + 1 + (k - 1) = a + k by omega, e] at q
    cases q
    exact Nat.le_of_ble_eq_true rfl
  by_cases k7 : k = 7
  · subst k7
    obtain ⟨f, q, -⟩ := H.2.2.1
    rw [e] at q
    cases q
    exact Nat.le_of_ble_eq_true rfl
  · have : k = 8 := by omega
    subst this
    obtain ⟨f, q, -⟩ := H.2.2.2
    rw [e] at q
    cases q
    exact Nat.le_of_ble_eq_true rfl
theorem LF_sz {h : mH} {a b : Nat} {c : mC} (H : LF h a) (hb : a ≤ b ∧ b ≤ a + 4) (e : h.1[b]? = some c) : s_cs c ≤ 2160 := by
  obtain ⟨n, us, K, F, E, D, l0, l1, l2, l3, l4⟩ := H
  have hb' : b = a ∨ b = a + 1 ∨ b = a + 2 ∨ b = a + 3 ∨ b = a + 4 := by omega
  rcases hb' with rfl | rfl | rfl | rfl | rfl
  · rw [e] at l0; cases l0; exact Nat.le_of_ble_eq_true rfl
  · rw [e] at l1; cases l1; exact Nat.le_of_ble_eq_true rfl
  · rw [e] at l2; cases l2; exact Nat.le_of_ble_eq_true rfl
  · rw [e] at l3; cases l3; exact Nat.le_of_ble_eq_true rfl
  · rw [e] at l4; cases l4; exact Nat.le_of_ble_eq_true rfl
theorem tab_sz : ∀ p ∈ tab, p.2 ≤ 2160 := by decide
theorem tab_in : ∀ b, b < 84 → (b = 33 ∨ b = 34 ∨ b = 40 ∨ b = 41 ∨ b = 47 ∨ b = 48 ∨ (57 ≤ b ∧ b ≤ 62) ∨ (72 ≤ b ∧ b ≤ 82)) → ∃ p ∈ tab, p.1 = b := by decide
theorem INV_sz {h : mH} (Iv : INV h) : s_ns h ≤ 181440 + 6 * h.2 ∧ s_nc h = 84 + h.2 := by
  obtain ⟨g, m, W, I, l, r, ll, B, A1, B1, C1, U, ⟨⟨⟨g1, g2⟩, ⟨c1, R, V, c3⟩, ⟨a1, a2, a3, a4⟩, ⟨⟨p, t, w, t1⟩, t2, t3⟩, ⟨p1, p2, p3, p4⟩, im⟩, ⟨⟨m1, m2⟩, -, m3, ⟨F, m4⟩, m5, m6⟩, -, S, len⟩⟩ := Iv
  have k := gok_lt g2
  obtain ⟨V0, c5⟩ : ∃ V, CA h 19 V := by
    rcases im with ⟨-, V, i2⟩ | ⟨-, i2, -⟩
    · exact ⟨V, i2⟩
    · exact ⟨_, i2⟩
  have one : ∀ (b : Nat) (c : mC), h.1[b]? = some c → s_cs c ≤ 2160 := by
    intro b c e
    have hb : b < 84 := by rw [← len]; exact (List.getElem?_eq_some_iff.mp e).1
    have at1 : ∀ {x : mC}, h.1[b]? = some x → s_cs x ≤ 2160 → s_cs c ≤ 2160 := fun q z => by rw [e] at q; cases q; exact z
    by_cases b1 : g.1 ≤ b ∧ b ≤ g.1 + 8
    · exact CA_sz c1 b1 e
    by_cases b2 : g.2.1 ≤ b ∧ b ≤ g.2.1 + 8
    · exact CA_sz c3 b2 e
    by_cases b3 : 19 ≤ b ∧ b ≤ 19 + 8
    · exact CA_sz c5 b3 e
    by_cases b4 : 28 ≤ b ∧ b ≤ 28 + 4
    · exact LF_sz a2 b4 e
    by_cases b5 : 35 ≤ b ∧ b ≤ 35 + 4
    · exact LF_sz a3 b5 e
    by_cases b6 : 42 ≤ b ∧ b ≤ 42 + 4
    · exact LF_sz a4 b6 e
    by_cases b7 : b = 33 ∨ b = 34 ∨ b = 40 ∨ b = 41 ∨ b = 47 ∨ b = 48 ∨ (57 ≤ b ∧ b ≤ 62) ∨ (72 ≤ b ∧ b ≤ 82)
    · obtain ⟨⟨b', n'⟩, hp, q⟩ := tab_in b hb b7
      simp only at q
      subst q
      obtain ⟨f, z⟩ := S.1 b' n' hp
      exact at1 z (tab_sz _ hp)
    have hb' : b = 0 ∨ b = 49 ∨ b = 50 ∨ b = 51 ∨ b = 52 ∨ b = 53 ∨ b = 54 ∨ b = 55 ∨ b = 56 ∨ b = 63 ∨ b = 64 ∨ b = 65 ∨ b = 66 ∨ b = 67 ∨ b = 68 ∨ b = 69 ∨ b = 70 ∨ b = 71 ∨ b = 83 := by
      unfold gok at g2
      omega
    obtain ⟨s1, s2⟩ := S.2.1
    obtain ⟨s3, s4, s5, s6⟩ := S.2.2.1
    obtain ⟨s7, s8⟩ := S.2.2.2.1
    obtain ⟨s9, s10⟩ := S.2.2.2.2.1
    obtain ⟨s11, s12⟩ := S.2.2.2.2.2.1
    obtain ⟨s13, s14⟩ := S.2.2.2.2.2.2
    rcases hb' with rfl | rfl | rfl | rfl | rfl | rfl | rfl | rfl | rfl | rfl | rfl | rfl | rfl | rfl | rfl | rfl | rfl | rfl | rfl
    · exact at1 g1 (Nat.le_of_ble_eq_true rfl)
    · exact at1 t1 (Nat.le_of_ble_eq_true rfl)
    · exact at1 t2 (Nat.le_of_ble_eq_true rfl)
    · exact at1 p1 (Nat.le_of_ble_eq_true rfl)
    · exact at1 p2 (Nat.le_of_ble_eq_true rfl)
    · exact at1 p3 (Nat.le_of_ble_eq_true rfl)
    · exact at1 p4 (Nat.le_of_ble_eq_true rfl)
    · exact at1 s2 (Nat.le_of_ble_eq_true rfl)
    · exact at1 s6 (Nat.le_of_ble_eq_true rfl)
    · exact at1 s8 (Nat.le_of_ble_eq_true rfl)
    · exact at1 s10 (Nat.le_of_ble_eq_true rfl)
    · exact at1 s12 (Nat.le_of_ble_eq_true rfl)
    · exact at1 m1 (Nat.le_of_ble_eq_true rfl)
    · exact at1 m2 (Nat.le_of_ble_eq_true rfl)
    · exact at1 m3 (Nat.le_of_ble_eq_true rfl)
    · exact at1 m4 (Nat.le_of_ble_eq_true rfl)
    · exact at1 m5 (Nat.le_of_ble_eq_true rfl)
    · exact at1 m6 (Nat.le_of_ble_eq_true rfl)
    · exact at1 s14 (Nat.le_of_ble_eq_true rfl)
  have sum : ∀ L : List mC, (∀ c ∈ L, s_cs c ≤ 2160) → (L.map s_cs).sum ≤ L.length * 2160 := by
    intro L
    induction L with
    | nil => intro _; simp
    | cons c L ih =>
      intro hL
      have h1 := hL c (List.mem_cons_self ..)
      have h2 := ih (fun x hx => hL x (List.mem_cons_of_mem _ hx))
      simp only [List.map_cons, List.sum_cons, List.length_cons]
      omega
  have s1 := sum h.1 (fun c hc => by
    obtain ⟨b, hb, e⟩ := List.mem_iff_getElem.mp hc
    exact one b c (by rw [List.getElem?_eq_getElem hb, e]))
  unfold s_ns s_nc
  rw [len] at s1 ⊢
  exact ⟨by omega, rfl⟩
/-- the law on a script: it answers true, in its room -/
theorem law_all (O : mO) (XC : CTX O) (XM : MTX O) (XL : LTX O) (XT : MTL O) (PL : PLC O) {n : Nat} {S : Nat → Int32} (e0 : O 0 = some (aI n S)) (hn : n ≤ 3072) : ∃ h', ev O 40 291 0 [.retAddr 0, mJ, mJ, mJ, mJ, mJ, mJ] [] (([], 0) : mH) = some (.inl (some (.int (1))), h') ∧ s_nc h' ≤ 600 ∧ s_ns h' ≤ 190000 := by
  have sL : m_lnO O 0 = some (nI n) := by simp only [m_lnO, e0]; rfl
  have sA : ∀ j, j < n → m_aiO O 0 (nI j) = some (S j) := fun j hj => by
    have h1 : vp_in (nI j) n := vp_in_nI hj (by omega)
    simp only [m_aiO, e0]
    rw [if_neg h1, nI_clamp (by omega)]
  obtain ⟨h', e, Iv, le⟩ := law_run O 0 XC XM XL XT PL sL hn sA 512 0 H84 mJ mJ INV00 (by omega) (by omega)
  obtain ⟨z1, z2⟩ := INV_sz Iv
  have h0 : H84.2 = 0 := rfl
  refine ⟨h', ?_, by omega, by omega⟩
  rw [start_ev O 36]
  rw [nI_0] at e
  exact e
