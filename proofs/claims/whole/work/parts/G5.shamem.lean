/-! The reference reads a condition of the law -/
def wrM : WD → Nat → CO → WD
  | V, _, [] => V
  | V, s, (k, x) :: r => wrM (upd (upd V (1301 + 2 * s) (nI k)) (1301 + 2 * s + 1) x) (s + 1) r
theorem wrM_app : ∀ (a b : CO) (V : WD) (s : Nat), wrM V s (a ++ b) = wrM (wrM V s a) (s + a.length) b
  | [], b, V, s => rfl
  | (k, x) :: r, b, V, s => by
    simp only [List.cons_append, wrM, List.length_cons]
    rw [wrM_app r b, show s + 1 + r.length = s + (r.length + 1) by omega]
theorem wrM_lo : ∀ (a : CO) (V : WD) (s : Nat) {i : Nat}, i < 1301 → wrM V s a i = V i
  | [], V, s, i, h => rfl
  | (k, x) :: r, V, s, i, h => by
    unfold wrM
    rw [wrM_lo r _ _ h, pk_un (by omega), pk_un (by omega)]
def MC (r : Option mR) (h : mH) (m : Nat → Int32) (dp : Int32) (s : Nat) (V : WD) (res : RS) : Prop := match res with
  | .inl f => ∃ p' dp' s' V', r = some (.inl (some (.int (0))), hz h m p' (nI f) dp' s' V') ∧ ∀ i, i < 1264 → V' i = V i
  | .inr x => ∃ b', r = some (.inl (some (.int (1))), hz h m (nI x.1) b' dp (nI (s + x.2.length)) (wrM V s x.2))
def MTL (O : mO) : Prop := TX O 70 w_fine ∧ TX O 72 w_show ∧ TX O 74 w_hide ∧ TX O 76 w_if ∧ TX O 78 w_not ∧ TX O 52 w_thick ∧ TX O 58 w_sand ∧ TX O 80 w_cracks ∧ TX O 82 w_hour ∧ TX O 84 w_light ∧ TX O 60 w_owner ∧ TX O 86 w_load ∧ TX O 88 w_and ∧ TX O 90 w_or
theorem fd_is {c : Nat → Bool} {n k : Nat} (hk : k < n) (h1 : c k = true) (h2 : ∀ j, j < k → c j = false) : fd c n = some k := by
  cases e : fd c n with
  | none =>
    have := fd_none e k hk
    rw [h1] at this; cases this
  | some i =>
    obtain ⟨-, b, q⟩ := fd_some e
    rcases Nat.lt_trichotomy i k with z | z | z
    · rw [h2 i z] at b; cases b
    · rw [z]
    · rw [q k z] at h1; cases h1
theorem fd_no {c : Nat → Bool} {n : Nat} (h : ∀ j, j < n → c j = false) : fd c n = none := by
  cases e : fd c n with
  | none => rfl
  | some i =>
    obtain ⟨a, b, -⟩ := fd_some e
    rw [h i a] at b; cases b
section LawM
variable {h : mH} {m : Nat → Int32} {l p s : Nat} {B : Nat → Int32} {b dp : Int32} {V : WD}
theorem MC_pre {r : Option mR} {c : CO} {res : RS} (L : MC r h m dp (s + c.length) (wrM V s c) res) : MC r h m dp s V (pre c res) := by
  unfold MC at *
  cases res with
  | inl e =>
    obtain ⟨p', dp', s', V', e1, e2⟩ := L
    exact ⟨p', dp', s', V', e1, fun i hi => by rw [e2 i hi, wrM_lo c _ _ (by omega)]⟩
  | inr x =>
    obtain ⟨b', e⟩ := L
    refine ⟨b', ?_⟩
    simp only
    rw [e, wrM_app, List.length_append, Nat.add_assoc]
theorem nx1301 (k : Nat) : (1301 : Int32) + nI k = nI (1301 + k) := nI_add 1301 k
theorem emits_ev (O : mO) (d : Nat) (R : RZ h m l B) (hs : s < 400) (k x : Int32) {p : Int32} : ev O (d) 180 0 [.ref 66, .int k, .int x] [] (hz h m p b dp (nI s) V) = some (.inl none, hz h m p b dp (nI (s + 1)) (upd (upd V (1301 + 2 * s) k) (1301 + 2 * s + 1) x)) := by
  simp only [e_180_0, e_180_1, e_180_4, e_180_7, e_180_8, e_180_9, e_180_12, e_180_13, e_180_14, e_180_15, e_180_16, e_180_17, e_180_20, e_180_23, e_180_24, e_180_25, e_180_28, e_180_29, e_180_30, e_180_31, e_180_32, e_180_33, e_180_34, e_180_35, e_180_36, e_180_39, e_180_40, e_180_41, e_180_44, Option.bind_some, Option.bind_none, m_kt, m_kn, Option.toList_some, Option.toList_none, List.nil_append, List.cons_append, List.append_nil, ltn, ite_not, ↓reduceIte, true_or, or_true, nP1, oI_s, oI_n, bI_f, bI_t, i1_0, i0_0, Bool.false_eq_true, not_true_eq_false, not_false_eq_true, gz1 R, gz15 R, nx2, nx1301, sz67 R (show 1301 + 2 * s < 2101 by omega), sz67 R (show 1301 + 2 * s + 1 < 2101 by omega), cat_ref, pz15 R]
theorem num_q (p : Nat) (lo hi : Int32) : num B l (sb B l p) lo hi = num B l p lo hi := by unfold num; rw [sb_sb]
theorem num_let {lo hi : Int32} (z : ltr B l (sb B l p) = true) : num B l p lo hi = none := by
  have d0 : dgt B l (sb B l p) = false := by
    unfold ltr at z
    unfold dgt
    simp only [Bool.and_eq_true, decide_eq_true_eq] at z
    have : ¬ B (sb B l p) ≤ 57 := fun q => by
      have a1 := z.2.1
      rw [i_le] at a1 q
      have e1 : (97 : Int32).toInt = 97 := by decide
      have e2 : (57 : Int32).toInt = 57 := by decide
      omega
    rw [decide_eq_false this, Bool.and_false, Bool.and_false]
  have n0 : ndg B l (sb B l p) = 0 := by
    unfold ndg
    rw [show skN (dgt B l) 4 (sb B l p) = sb B l p from by rw [skN_s, d0]; rfl, Nat.sub_self]
  unfold num
  rw [n0, if_neg (fun q => by omega)]
theorem le_let {q : Nat} (h : ¬ le' B l q = q) : ltr B l q = true := by
  cases z : ltr B l q
  · exfalso
    refine h ?_
    unfold le'
    cases k : l - q with
    | zero => rfl
    | succ k => rw [skN_s, z]; rfl
  · rfl
theorem readPart_m (O : mO) (d : Nat) (X : MTL O) (R : RZ h m l B) (hp' : p ≤ l) (hs : s + 4 ≤ p) : MC (ev O (d + 6) 181 0 [.ref 66, mJ] [] (hz h m (nI p) b dp (nI s) V)) h m dp s V (prt B l p) := by
  have hl := R.2.2.2.2
  have sp := sb_le (B := B) hp'
  obtain ⟨-, -, -, -, -, xth, xsa, xcr, xho, xli, xow, xlo, -, -⟩ := X
  have ll := le_le (B := B) sp
  have up : ∀ k x i, i < 1264 → upd (upd V (1301 + 2 * s) k) (1301 + 2 * s + 1) x i = V i := fun k x i hi => by rw [pk_un (by omega), pk_un (by omega)]
  by_cases z : le' B l (sb B l p) = sb B l p
  · have fn : fcS B l (sb B l p) = none := fd_no (fun k hk => by
      cases y : wd B l (sb B l p) (fw k)
      · rfl
      · have := (wd_le (l_fw k) y).1
        have := (l_fw k).1
        omega)
    unfold prt
    rw [fn]
    simp only
    unfold nmS
    cases q : num B l p 0 999 with
    | none =>
      refine ⟨nI (de' B l (sb B l p)), dp, nI (s + 1), _, ?_, up 7 (-1)⟩
      · simp only [e_181_0, e_181_1, e_181_4, e_181_5, e_181_8, e_181_9, e_181_12, e_181_15, e_181_16, e_181_17, e_181_20, e_181_23, e_181_24, e_181_25, e_181_27, e_181_28, e_181_31, e_181_34, e_181_35, e_181_37, e_181_40, e_181_43, e_181_44, e_181_47, e_181_48, e_181_50, e_181_53, e_181_56, e_181_57, e_181_60, e_181_61, e_181_63, e_181_66, e_181_69, e_181_70, e_181_73, e_181_74, e_181_76, e_181_79, e_181_82, e_181_83, e_181_86, e_181_87, e_181_89, e_181_92, e_181_95, e_181_96, e_181_99, e_181_100, e_181_102, e_181_105, e_181_108, e_181_109, e_181_112, e_181_113, e_181_115, e_181_118, e_181_121, e_181_123, e_181_126, e_181_127, e_181_128, e_181_129, e_181_130, e_181_131, e_181_134, e_181_135, e_181_138, e_181_139, e_181_142, e_181_143, Option.bind_some, Option.bind_none, m_kt, m_kn, Option.toList_some, Option.toList_none, List.nil_append, List.cons_append, List.append_nil, ltn, ite_not, ↓reduceIte, true_or, or_true, nP1, oI_s, oI_n, bI_f, bI_t, i1_0, i0_0, Bool.false_eq_true, not_true_eq_false, not_false_eq_true, Zisc R, letters_ev O (d + 3) R hp', z, gz9 R, gz11 R, number_ev O (d + 3) R sp, num_q, q, Option.elim_none, sb_sb, emits_ev O (d + 5) R (show s < 400 by omega), m1_0, z01]
    | some x =>
      obtain ⟨x1, x2, x3⟩ := nm_pos q
      refine ⟨nI (sb B l p), ?_⟩
      simp only [e_181_0, e_181_1, e_181_4, e_181_5, e_181_8, e_181_9, e_181_12, e_181_15, e_181_16, e_181_17, e_181_20, e_181_23, e_181_24, e_181_25, e_181_27, e_181_28, e_181_31, e_181_34, e_181_35, e_181_37, e_181_40, e_181_43, e_181_44, e_181_47, e_181_48, e_181_50, e_181_53, e_181_56, e_181_57, e_181_60, e_181_61, e_181_63, e_181_66, e_181_69, e_181_70, e_181_73, e_181_74, e_181_76, e_181_79, e_181_82, e_181_83, e_181_86, e_181_87, e_181_89, e_181_92, e_181_95, e_181_96, e_181_99, e_181_100, e_181_102, e_181_105, e_181_108, e_181_109, e_181_112, e_181_113, e_181_115, e_181_118, e_181_121, e_181_123, e_181_126, e_181_127, e_181_128, e_181_129, e_181_130, e_181_131, e_181_134, e_181_135, e_181_138, e_181_139, e_181_142, e_181_143, Option.bind_some, Option.bind_none, m_kt, m_kn, Option.toList_some, Option.toList_none, List.nil_append, List.cons_append, List.append_nil, ltn, ite_not, ↓reduceIte, true_or, or_true, nP1, oI_s, oI_n, bI_f, bI_t, i1_0, i0_0, Bool.false_eq_true, not_true_eq_false, not_false_eq_true, Zisc R, letters_ev O (d + 3) R hp', z, gz9 R, gz11 R, number_ev O (d + 3) R sp, num_q, q, Option.elim_some, sb_sb, emits_ev O (d + 5) R (show s < 400 by omega), x1, o01]
      rfl
  · have nz : ¬ nI (le' B l (sb B l p)) = nI (sb B l p) := fun y => z ((nI_eq (by omega) (by omega)).mp y)
    have nn := num_let (p := p) (lo := 0) (hi := 999) (le_let z)
    unfold prt nmS
    rw [nn]
    have w1 : ∀ {k : Nat} {s' : List Nat}, TX O k s' → low s' → ev O (d + 5) 170 0 [.ref 66, .retAddr k, mJ, mJ] [] (hz h m (nI (le' B l (sb B l p))) (nI (sb B l p)) dp (nI s) V) = some (.inl (some (.int (bI (wd B l (sb B l p) s')))), hz h m (nI (le' B l (sb B l p))) (nI (sb B l p)) dp (nI s) V) := fun X L => isWord_ev O d R sp X L
    cases z0 : wd B l (sb B l p) w_thick
    case true =>
      have fn : fcS B l (sb B l p) = some 0 := fd_is (by omega) z0 (fun j hj => by
        have hj' : False := by omega
        exact hj'.elim)
      rw [fn]
      refine ⟨nI (sb B l p), ?_⟩
      have le := (wd_le l_thick z0).1
      simp only [e_181_0, e_181_1, e_181_4, e_181_5, e_181_8, e_181_9, e_181_12, e_181_15, e_181_16, e_181_17, e_181_20, e_181_23, e_181_24, e_181_25, e_181_27, e_181_28, e_181_31, e_181_34, e_181_35, e_181_37, e_181_40, e_181_43, e_181_44, e_181_47, e_181_48, e_181_50, e_181_53, e_181_56, e_181_57, e_181_60, e_181_61, e_181_63, e_181_66, e_181_69, e_181_70, e_181_73, e_181_74, e_181_76, e_181_79, e_181_82, e_181_83, e_181_86, e_181_87, e_181_89, e_181_92, e_181_95, e_181_96, e_181_99, e_181_100, e_181_102, e_181_105, e_181_108, e_181_109, e_181_112, e_181_113, e_181_115, e_181_118, e_181_121, e_181_123, e_181_126, e_181_127, e_181_128, e_181_129, e_181_130, e_181_131, e_181_134, e_181_135, e_181_138, e_181_139, e_181_142, e_181_143, Option.bind_some, Option.bind_none, m_kt, m_kn, Option.toList_some, Option.toList_none, List.nil_append, List.cons_append, List.append_nil, ltn, ite_not, ↓reduceIte, true_or, or_true, nP1, oI_s, oI_n, bI_f, bI_t, i1_0, i0_0, Bool.false_eq_true, not_true_eq_false, not_false_eq_true, Zisc R, letters_ev O (d + 3) R hp', gz9 R, gz11 R, nz, w1 xth l_thick, z0, emits_ev O (d + 5) R (show s < 400 by omega), (show ((0 : Int32) ≤ 0) = True by decide), o01]
      rw [le]
      rfl
    cases z1 : wd B l (sb B l p) w_sand
    case true =>
      have fn : fcS B l (sb B l p) = some 1 := fd_is (by omega) z1 (fun j hj => by
        have hj' : j = 0 := by omega
        rcases hj' with rfl
        exact z0)
      rw [fn]
      refine ⟨nI (sb B l p), ?_⟩
      have le := (wd_le l_sand z1).1
      simp only [e_181_0, e_181_1, e_181_4, e_181_5, e_181_8, e_181_9, e_181_12, e_181_15, e_181_16, e_181_17, e_181_20, e_181_23, e_181_24, e_181_25, e_181_27, e_181_28, e_181_31, e_181_34, e_181_35, e_181_37, e_181_40, e_181_43, e_181_44, e_181_47, e_181_48, e_181_50, e_181_53, e_181_56, e_181_57, e_181_60, e_181_61, e_181_63, e_181_66, e_181_69, e_181_70, e_181_73, e_181_74, e_181_76, e_181_79, e_181_82, e_181_83, e_181_86, e_181_87, e_181_89, e_181_92, e_181_95, e_181_96, e_181_99, e_181_100, e_181_102, e_181_105, e_181_108, e_181_109, e_181_112, e_181_113, e_181_115, e_181_118, e_181_121, e_181_123, e_181_126, e_181_127, e_181_128, e_181_129, e_181_130, e_181_131, e_181_134, e_181_135, e_181_138, e_181_139, e_181_142, e_181_143, Option.bind_some, Option.bind_none, m_kt, m_kn, Option.toList_some, Option.toList_none, List.nil_append, List.cons_append, List.append_nil, ltn, ite_not, ↓reduceIte, true_or, or_true, nP1, oI_s, oI_n, bI_f, bI_t, i1_0, i0_0, Bool.false_eq_true, not_true_eq_false, not_false_eq_true, Zisc R, letters_ev O (d + 3) R hp', gz9 R, gz11 R, nz, w1 xth l_thick, z0, w1 xsa l_sand, z1, emits_ev O (d + 5) R (show s < 400 by omega), (show ((0 : Int32) ≤ 1) = True by decide), o01]
      rw [le]
      rfl
    cases z2 : wd B l (sb B l p) w_cracks
    case true =>
      have fn : fcS B l (sb B l p) = some 2 := fd_is (by omega) z2 (fun j hj => by
        have hj' : j = 0 ∨ j = 1 := by omega
        rcases hj' with rfl | rfl
        · exact z0
        · exact z1)
      rw [fn]
      refine ⟨nI (sb B l p), ?_⟩
      have le := (wd_le l_cracks z2).1
      simp only [e_181_0, e_181_1, e_181_4, e_181_5, e_181_8, e_181_9, e_181_12, e_181_15, e_181_16, e_181_17, e_181_20, e_181_23, e_181_24, e_181_25, e_181_27, e_181_28, e_181_31, e_181_34, e_181_35, e_181_37, e_181_40, e_181_43, e_181_44, e_181_47, e_181_48, e_181_50, e_181_53, e_181_56, e_181_57, e_181_60, e_181_61, e_181_63, e_181_66, e_181_69, e_181_70, e_181_73, e_181_74, e_181_76, e_181_79, e_181_82, e_181_83, e_181_86, e_181_87, e_181_89, e_181_92, e_181_95, e_181_96, e_181_99, e_181_100, e_181_102, e_181_105, e_181_108, e_181_109, e_181_112, e_181_113, e_181_115, e_181_118, e_181_121, e_181_123, e_181_126, e_181_127, e_181_128, e_181_129, e_181_130, e_181_131, e_181_134, e_181_135, e_181_138, e_181_139, e_181_142, e_181_143, Option.bind_some, Option.bind_none, m_kt, m_kn, Option.toList_some, Option.toList_none, List.nil_append, List.cons_append, List.append_nil, ltn, ite_not, ↓reduceIte, true_or, or_true, nP1, oI_s, oI_n, bI_f, bI_t, i1_0, i0_0, Bool.false_eq_true, not_true_eq_false, not_false_eq_true, Zisc R, letters_ev O (d + 3) R hp', gz9 R, gz11 R, nz, w1 xth l_thick, z0, w1 xsa l_sand, z1, w1 xcr l_cracks, z2, emits_ev O (d + 5) R (show s < 400 by omega), (show ((0 : Int32) ≤ 2) = True by decide), o01]
      rw [le]
      rfl
    cases z3 : wd B l (sb B l p) w_hour
    case true =>
      have fn : fcS B l (sb B l p) = some 3 := fd_is (by omega) z3 (fun j hj => by
        have hj' : j = 0 ∨ j = 1 ∨ j = 2 := by omega
        rcases hj' with rfl | rfl | rfl
        · exact z0
        · exact z1
        · exact z2)
      rw [fn]
      refine ⟨nI (sb B l p), ?_⟩
      have le := (wd_le l_hour z3).1
      simp only [e_181_0, e_181_1, e_181_4, e_181_5, e_181_8, e_181_9, e_181_12, e_181_15, e_181_16, e_181_17, e_181_20, e_181_23, e_181_24, e_181_25, e_181_27, e_181_28, e_181_31, e_181_34, e_181_35, e_181_37, e_181_40, e_181_43, e_181_44, e_181_47, e_181_48, e_181_50, e_181_53, e_181_56, e_181_57, e_181_60, e_181_61, e_181_63, e_181_66, e_181_69, e_181_70, e_181_73, e_181_74, e_181_76, e_181_79, e_181_82, e_181_83, e_181_86, e_181_87, e_181_89, e_181_92, e_181_95, e_181_96, e_181_99, e_181_100, e_181_102, e_181_105, e_181_108, e_181_109, e_181_112, e_181_113, e_181_115, e_181_118, e_181_121, e_181_123, e_181_126, e_181_127, e_181_128, e_181_129, e_181_130, e_181_131, e_181_134, e_181_135, e_181_138, e_181_139, e_181_142, e_181_143, Option.bind_some, Option.bind_none, m_kt, m_kn, Option.toList_some, Option.toList_none, List.nil_append, List.cons_append, List.append_nil, ltn, ite_not, ↓reduceIte, true_or, or_true, nP1, oI_s, oI_n, bI_f, bI_t, i1_0, i0_0, Bool.false_eq_true, not_true_eq_false, not_false_eq_true, Zisc R, letters_ev O (d + 3) R hp', gz9 R, gz11 R, nz, w1 xth l_thick, z0, w1 xsa l_sand, z1, w1 xcr l_cracks, z2, w1 xho l_hour, z3, emits_ev O (d + 5) R (show s < 400 by omega), (show ((0 : Int32) ≤ 3) = True by decide), o01]
      rw [le]
      rfl
    cases z4 : wd B l (sb B l p) w_light
    case true =>
      have fn : fcS B l (sb B l p) = some 4 := fd_is (by omega) z4 (fun j hj => by
        have hj' : j = 0 ∨ j = 1 ∨ j = 2 ∨ j = 3 := by omega
        rcases hj' with rfl | rfl | rfl | rfl
        · exact z0
        · exact z1
        · exact z2
        · exact z3)
      rw [fn]
      refine ⟨nI (sb B l p), ?_⟩
      have le := (wd_le l_light z4).1
      simp only [e_181_0, e_181_1, e_181_4, e_181_5, e_181_8, e_181_9, e_181_12, e_181_15, e_181_16, e_181_17, e_181_20, e_181_23, e_181_24, e_181_25, e_181_27, e_181_28, e_181_31, e_181_34, e_181_35, e_181_37, e_181_40, e_181_43, e_181_44, e_181_47, e_181_48, e_181_50, e_181_53, e_181_56, e_181_57, e_181_60, e_181_61, e_181_63, e_181_66, e_181_69, e_181_70, e_181_73, e_181_74, e_181_76, e_181_79, e_181_82, e_181_83, e_181_86, e_181_87, e_181_89, e_181_92, e_181_95, e_181_96, e_181_99, e_181_100, e_181_102, e_181_105, e_181_108, e_181_109, e_181_112, e_181_113, e_181_115, e_181_118, e_181_121, e_181_123, e_181_126, e_181_127, e_181_128, e_181_129, e_181_130, e_181_131, e_181_134, e_181_135, e_181_138, e_181_139, e_181_142, e_181_143, Option.bind_some, Option.bind_none, m_kt, m_kn, Option.toList_some, Option.toList_none, List.nil_append, List.cons_append, List.append_nil, ltn, ite_not, ↓reduceIte, true_or, or_true, nP1, oI_s, oI_n, bI_f, bI_t, i1_0, i0_0, Bool.false_eq_true, not_true_eq_false, not_false_eq_true, Zisc R, letters_ev O (d + 3) R hp', gz9 R, gz11 R, nz, w1 xth l_thick, z0, w1 xsa l_sand, z1, w1 xcr l_cracks, z2, w1 xho l_hour, z3, w1 xli l_light, z4, emits_ev O (d + 5) R (show s < 400 by omega), (show ((0 : Int32) ≤ 4) = True by decide), o01]
      rw [le]
      rfl
    cases z5 : wd B l (sb B l p) w_owner
    case true =>
      have fn : fcS B l (sb B l p) = some 5 := fd_is (by omega) z5 (fun j hj => by
        have hj' : j = 0 ∨ j = 1 ∨ j = 2 ∨ j = 3 ∨ j = 4 := by omega
        rcases hj' with rfl | rfl | rfl | rfl | rfl
        · exact z0
        · exact z1
        · exact z2
        · exact z3
        · exact z4)
      rw [fn]
      refine ⟨nI (sb B l p), ?_⟩
      have le := (wd_le l_owner z5).1
      simp only [e_181_0, e_181_1, e_181_4, e_181_5, e_181_8, e_181_9, e_181_12, e_181_15, e_181_16, e_181_17, e_181_20, e_181_23, e_181_24, e_181_25, e_181_27, e_181_28, e_181_31, e_181_34, e_181_35, e_181_37, e_181_40, e_181_43, e_181_44, e_181_47, e_181_48, e_181_50, e_181_53, e_181_56, e_181_57, e_181_60, e_181_61, e_181_63, e_181_66, e_181_69, e_181_70, e_181_73, e_181_74, e_181_76, e_181_79, e_181_82, e_181_83, e_181_86, e_181_87, e_181_89, e_181_92, e_181_95, e_181_96, e_181_99, e_181_100, e_181_102, e_181_105, e_181_108, e_181_109, e_181_112, e_181_113, e_181_115, e_181_118, e_181_121, e_181_123, e_181_126, e_181_127, e_181_128, e_181_129, e_181_130, e_181_131, e_181_134, e_181_135, e_181_138, e_181_139, e_181_142, e_181_143, Option.bind_some, Option.bind_none, m_kt, m_kn, Option.toList_some, Option.toList_none, List.nil_append, List.cons_append, List.append_nil, ltn, ite_not, ↓reduceIte, true_or, or_true, nP1, oI_s, oI_n, bI_f, bI_t, i1_0, i0_0, Bool.false_eq_true, not_true_eq_false, not_false_eq_true, Zisc R, letters_ev O (d + 3) R hp', gz9 R, gz11 R, nz, w1 xth l_thick, z0, w1 xsa l_sand, z1, w1 xcr l_cracks, z2, w1 xho l_hour, z3, w1 xli l_light, z4, w1 xow l_owner, z5, emits_ev O (d + 5) R (show s < 400 by omega), (show ((0 : Int32) ≤ 5) = True by decide), o01]
      rw [le]
      rfl
    cases z6 : wd B l (sb B l p) w_load
    case true =>
      have fn : fcS B l (sb B l p) = some 6 := fd_is (by omega) z6 (fun j hj => by
        have hj' : j = 0 ∨ j = 1 ∨ j = 2 ∨ j = 3 ∨ j = 4 ∨ j = 5 := by omega
        rcases hj' with rfl | rfl | rfl | rfl | rfl | rfl
        · exact z0
        · exact z1
        · exact z2
        · exact z3
        · exact z4
        · exact z5)
      rw [fn]
      refine ⟨nI (sb B l p), ?_⟩
      have le := (wd_le l_load z6).1
      simp only [e_181_0, e_181_1, e_181_4, e_181_5, e_181_8, e_181_9, e_181_12, e_181_15, e_181_16, e_181_17, e_181_20, e_181_23, e_181_24, e_181_25, e_181_27, e_181_28, e_181_31, e_181_34, e_181_35, e_181_37, e_181_40, e_181_43, e_181_44, e_181_47, e_181_48, e_181_50, e_181_53, e_181_56, e_181_57, e_181_60, e_181_61, e_181_63, e_181_66, e_181_69, e_181_70, e_181_73, e_181_74, e_181_76, e_181_79, e_181_82, e_181_83, e_181_86, e_181_87, e_181_89, e_181_92, e_181_95, e_181_96, e_181_99, e_181_100, e_181_102, e_181_105, e_181_108, e_181_109, e_181_112, e_181_113, e_181_115, e_181_118, e_181_121, e_181_123, e_181_126, e_181_127, e_181_128, e_181_129, e_181_130, e_181_131, e_181_134, e_181_135, e_181_138, e_181_139, e_181_142, e_181_143, Option.bind_some, Option.bind_none, m_kt, m_kn, Option.toList_some, Option.toList_none, List.nil_append, List.cons_append, List.append_nil, ltn, ite_not, ↓reduceIte, true_or, or_true, nP1, oI_s, oI_n, bI_f, bI_t, i1_0, i0_0, Bool.false_eq_true, not_true_eq_false, not_false_eq_true, Zisc R, letters_ev O (d + 3) R hp', gz9 R, gz11 R, nz, w1 xth l_thick, z0, w1 xsa l_sand, z1, w1 xcr l_cracks, z2, w1 xho l_hour, z3, w1 xli l_light, z4, w1 xow l_owner, z5, w1 xlo l_load, z6, emits_ev O (d + 5) R (show s < 400 by omega), (show ((0 : Int32) ≤ 6) = True by decide), o01]
      rw [le]
      rfl
    have fn : fcS B l (sb B l p) = none := fd_no (fun j hj => by
      have hj' : j = 0 ∨ j = 1 ∨ j = 2 ∨ j = 3 ∨ j = 4 ∨ j = 5 ∨ j = 6 := by omega
      rcases hj' with rfl | rfl | rfl | rfl | rfl | rfl | rfl
      · exact z0
      · exact z1
      · exact z2
      · exact z3
      · exact z4
      · exact z5
      · exact z6)
    rw [fn]
    refine ⟨nI (le' B l (sb B l p)), dp, nI (s + 1), _, ?_, up (-1) 0⟩
    simp only [e_181_0, e_181_1, e_181_4, e_181_5, e_181_8, e_181_9, e_181_12, e_181_15, e_181_16, e_181_17, e_181_20, e_181_23, e_181_24, e_181_25, e_181_27, e_181_28, e_181_31, e_181_34, e_181_35, e_181_37, e_181_40, e_181_43, e_181_44, e_181_47, e_181_48, e_181_50, e_181_53, e_181_56, e_181_57, e_181_60, e_181_61, e_181_63, e_181_66, e_181_69, e_181_70, e_181_73, e_181_74, e_181_76, e_181_79, e_181_82, e_181_83, e_181_86, e_181_87, e_181_89, e_181_92, e_181_95, e_181_96, e_181_99, e_181_100, e_181_102, e_181_105, e_181_108, e_181_109, e_181_112, e_181_113, e_181_115, e_181_118, e_181_121, e_181_123, e_181_126, e_181_127, e_181_128, e_181_129, e_181_130, e_181_131, e_181_134, e_181_135, e_181_138, e_181_139, e_181_142, e_181_143, Option.bind_some, Option.bind_none, m_kt, m_kn, Option.toList_some, Option.toList_none, List.nil_append, List.cons_append, List.append_nil, ltn, ite_not, ↓reduceIte, true_or, or_true, nP1, oI_s, oI_n, bI_f, bI_t, i1_0, i0_0, Bool.false_eq_true, not_true_eq_false, not_false_eq_true, Zisc R, letters_ev O (d + 3) R hp', gz9 R, gz11 R, nz, w1 xth l_thick, z0, w1 xsa l_sand, z1, w1 xcr l_cracks, z2, w1 xho l_hour, z3, w1 xli l_light, z4, w1 xow l_owner, z5, w1 xlo l_load, z6, emits_ev O (d + 5) R (show s < 400 by omega), m1_0, z01]
theorem sumM_run (O : mO) (e : Nat) (X : MTL O) (R : RZ h m l B)  : ∀ (f : Nat) {p s : Nat} {V : WD} {b : Int32}, l < f + p → p ≤ l → s + 4 ≤ p → MC (ev O (e + 7) 182 9 [.ref 66] [] (hz h m (nI p) b dp (nI s) V)) h m dp s V (lpP B l (tPl B l) (prt B l) 8 p) := by
  have hl := R.2.2.2.2
  
  intro f
  induction f with
  | zero => intro p s V b h1 h2; omega
  | succ f ih =>
    intro p s V b h1 h2 h3
    have sp := sb_le (B := B) h2
    have sq := sb_ge B l p
    rw [lpP_eq tPl_g prt_ok.av h2]
    cases z : sg B l p 43
    · have tn : (tPl B l) p = none := by unfold tPl; rw [z]; rfl
      rw [tn]
      refine ⟨nI (sb B l p), ?_⟩
      rw [e_182_9]
      simp only [e_182_0, e_182_1, e_182_4, e_182_7, e_182_8, e_182_10, e_182_12, e_182_15, e_182_18, e_182_19, e_182_22, e_182_25, e_182_26, e_182_27, e_182_28, e_182_30, e_182_31, e_182_34, e_182_37, e_182_38, Option.bind_some, Option.bind_none, m_kt, m_kn, Option.toList_some, Option.toList_none, List.nil_append, List.cons_append, List.append_nil, ltn, ite_not, ↓reduceIte, true_or, or_true, nP1, oI_s, oI_n, bI_f, bI_t, i1_0, i0_0, Bool.false_eq_true, not_true_eq_false, not_false_eq_true, Zisc R, sign_ev O (e + 4) R h2, z, o01, List.length_nil, Nat.add_zero, wrM]
    · have tn : (tPl B l) p = some (sb B l p + 1) := by unfold tPl; rw [z]; rfl
      have wl : sb B l p + 1 ≤ l := (sg_lt z).1
      rw [tn]
      have bv := readPart_m (b := nI (sb B l p)) (dp := dp) (V := V) (p := sb B l p + 1) (s := s) O e X R wl (by omega)
      simp only
      cases eb : (prt B l) (sb B l p + 1) with
      | inl e1 =>
        rw [eb] at bv
        obtain ⟨p', dp', s', V', bv, bw⟩ := bv
        refine ⟨p', dp', s', V', ?_, bw⟩
        rw [e_182_9]
        simp only [e_182_0, e_182_1, e_182_4, e_182_7, e_182_8, e_182_10, e_182_12, e_182_15, e_182_18, e_182_19, e_182_22, e_182_25, e_182_26, e_182_27, e_182_28, e_182_30, e_182_31, e_182_34, e_182_37, e_182_38, Option.bind_some, Option.bind_none, m_kt, m_kn, Option.toList_some, Option.toList_none, List.nil_append, List.cons_append, List.append_nil, ltn, ite_not, ↓reduceIte, true_or, or_true, nP1, oI_s, oI_n, bI_f, bI_t, i1_0, i0_0, Bool.false_eq_true, not_true_eq_false, not_false_eq_true, Zisc R, sign_ev O (e + 4) R h2, z, bv, z01]
      | inr x =>
        rw [eb] at bv
        obtain ⟨b1, bv⟩ := bv
        obtain ⟨x1, x2, x3, -⟩ := prt_ok _ x wl eb
        simp only [sbd_r]
        refine MC_pre ?_
        have r := ih (p := x.1) (s := s + x.2.length + 1) (V := wrM V s (x.2 ++ [(8, 0)])) (b := b1) (by omega) x2 (by omega)
        rw [List.length_append, show [((8 : Nat), (0 : Int32))].length = 1 from rfl, ← Nat.add_assoc]
        rw [e_182_9]
        simp only [e_182_0, e_182_1, e_182_4, e_182_7, e_182_8, e_182_10, e_182_12, e_182_15, e_182_18, e_182_19, e_182_22, e_182_25, e_182_26, e_182_27, e_182_28, e_182_30, e_182_31, e_182_34, e_182_37, e_182_38, Option.bind_some, Option.bind_none, m_kt, m_kn, Option.toList_some, Option.toList_none, List.nil_append, List.cons_append, List.append_nil, ltn, ite_not, ↓reduceIte, true_or, or_true, nP1, oI_s, oI_n, bI_f, bI_t, i1_0, i0_0, Bool.false_eq_true, not_true_eq_false, not_false_eq_true, Zisc R, sign_ev O (e + 4) R h2, z, bv, emits_ev O (e + 6) R (show s + x.2.length < 400 by omega)]
        rw [wrM_app] at r ⊢
        exact r
theorem sumM_ev (O : mO) (e : Nat) (X : MTL O) (R : RZ h m l B)  (hp' : p ≤ l) (hs : s + 4 ≤ p) : MC (ev O (e + 7) 182 0 [.ref 66] [] (hz h m (nI p) b dp (nI s) V)) h m dp s V (suS B l p) := by
  have bv := readPart_m (b := b) (dp := dp) (V := V) O e X R hp' hs
  show MC _ h m dp s V (sbd ((prt B l) p) fun x => pre x.2 (lpP B l (tPl B l) (prt B l) 8 x.1))
  cases eb : (prt B l) p with
  | inl e1 =>
    rw [eb] at bv
    obtain ⟨p', dp', s', V', bv, bw⟩ := bv
    refine ⟨p', dp', s', V', ?_, bw⟩
    simp only [e_182_0, e_182_1, e_182_4, e_182_7, e_182_8, e_182_10, e_182_12, e_182_15, e_182_18, e_182_19, e_182_22, e_182_25, e_182_26, e_182_27, e_182_28, e_182_30, e_182_31, e_182_34, e_182_37, e_182_38, Option.bind_some, Option.bind_none, m_kt, m_kn, Option.toList_some, Option.toList_none, List.nil_append, List.cons_append, List.append_nil, ltn, ite_not, ↓reduceIte, true_or, or_true, nP1, oI_s, oI_n, bI_f, bI_t, i1_0, i0_0, Bool.false_eq_true, not_true_eq_false, not_false_eq_true, Zisc R, bv, z01]
  | inr x =>
    rw [eb] at bv
    obtain ⟨b1, bv⟩ := bv
    obtain ⟨x1, x2, x3, -⟩ := prt_ok _ x hp' eb
    simp only [sbd_r]
    refine MC_pre ?_
    have r := sumM_run (dp := dp) O e X R (l + 1) (p := x.1) (s := s + x.2.length) (V := wrM V s x.2) (b := b1) (by omega) x2 (by omega)
    simp only [e_182_0, e_182_1, e_182_4, e_182_7, e_182_8, e_182_10, e_182_12, e_182_15, e_182_18, e_182_19, e_182_22, e_182_25, e_182_26, e_182_27, e_182_28, e_182_30, e_182_31, e_182_34, e_182_37, e_182_38, Option.bind_some, Option.bind_none, m_kt, m_kn, Option.toList_some, Option.toList_none, List.nil_append, List.cons_append, List.append_nil, ltn, ite_not, ↓reduceIte, true_or, or_true, nP1, oI_s, oI_n, bI_f, bI_t, i1_0, i0_0, Bool.false_eq_true, not_true_eq_false, not_false_eq_true, Zisc R, bv]
    exact r
def HM (O : mO) (e : Nat) (h : mH) (m : Nat → Int32) (l : Nat) (dp : Int32) (A : Nat → RS) : Prop := ∀ (p s : Nat) (V : WD) (b : Int32), p ≤ l → s + 4 ≤ p → MC (ev O (e) 183 0 [.ref 66, mJ] [] (hz h m (nI p) b dp (nI s) V)) h m dp s V (A p)
theorem allM_run (O : mO) (e : Nat) (X : MTL O) (R : RZ h m l B) {A : Nat → RS} {E : Nat} (G : GD l E true A) (H : HM O (e + 8) h m l dp A) : ∀ (f : Nat) {p s : Nat} {V : WD} {b : Int32}, l < f + p → p ≤ l → s + 4 ≤ p → MC (ev O (e + 9) 184 9 [.ref 66] [] (hz h m (nI p) b dp (nI s) V)) h m dp s V (lpP B l (tWd B l w_and) (A) 12 p) := by
  have hl := R.2.2.2.2
  obtain ⟨-, -, -, -, -, -, -, -, -, -, -, -, xw, -⟩ := X
  intro f
  induction f with
  | zero => intro p s V b h1 h2; omega
  | succ f ih =>
    intro p s V b h1 h2 h3
    have sp := sb_le (B := B) h2
    have sq := sb_ge B l p
    rw [lpP_eq (tWd_g l_and) G.av h2]
    cases z : wd B l (sb B l p) w_and
    · have tn : (tWd B l w_and) p = none := by unfold tWd; rw [z]; rfl
      rw [tn]
      refine ⟨nI (sb B l p), ?_⟩
      rw [e_184_9]
      simp only [e_184_0, e_184_1, e_184_4, e_184_7, e_184_8, e_184_10, e_184_12, e_184_15, e_184_18, e_184_19, e_184_22, e_184_25, e_184_26, e_184_27, e_184_28, e_184_30, e_184_31, e_184_34, e_184_37, e_184_38, Option.bind_some, Option.bind_none, m_kt, m_kn, Option.toList_some, Option.toList_none, List.nil_append, List.cons_append, List.append_nil, ltn, ite_not, ↓reduceIte, true_or, or_true, nP1, oI_s, oI_n, bI_f, bI_t, i1_0, i0_0, Bool.false_eq_true, not_true_eq_false, not_false_eq_true, Zisc R, passes_ev O (e + 2) R h2 xw l_and, z, o01, List.length_nil, Nat.add_zero, wrM]
    · have tn : (tWd B l w_and) p = some (sb B l p + 3) := by unfold tWd; rw [z]; rfl
      have wl : sb B l p + 3 ≤ l := (wd_le l_and z).2
      rw [tn]
      have bv := H (sb B l p + 3) s V (nI (sb B l p)) wl (by omega)
      simp only
      cases eb : (A) (sb B l p + 3) with
      | inl e1 =>
        rw [eb] at bv
        obtain ⟨p', dp', s', V', bv, bw⟩ := bv
        refine ⟨p', dp', s', V', ?_, bw⟩
        rw [e_184_9]
        simp only [e_184_0, e_184_1, e_184_4, e_184_7, e_184_8, e_184_10, e_184_12, e_184_15, e_184_18, e_184_19, e_184_22, e_184_25, e_184_26, e_184_27, e_184_28, e_184_30, e_184_31, e_184_34, e_184_37, e_184_38, Option.bind_some, Option.bind_none, m_kt, m_kn, Option.toList_some, Option.toList_none, List.nil_append, List.cons_append, List.append_nil, ltn, ite_not, ↓reduceIte, true_or, or_true, nP1, oI_s, oI_n, bI_f, bI_t, i1_0, i0_0, Bool.false_eq_true, not_true_eq_false, not_false_eq_true, Zisc R, passes_ev O (e + 2) R h2 xw l_and, z, (show w_and.length = 3 from rfl), bv, z01]
      | inr x =>
        rw [eb] at bv
        obtain ⟨b1, bv⟩ := bv
        obtain ⟨x1, x2, x3, -⟩ := G _ x wl eb
        simp only [sbd_r]
        refine MC_pre ?_
        have r := ih (p := x.1) (s := s + x.2.length + 1) (V := wrM V s (x.2 ++ [(12, 0)])) (b := b1) (by omega) x2 (by omega)
        rw [List.length_append, show [((12 : Nat), (0 : Int32))].length = 1 from rfl, ← Nat.add_assoc]
        rw [e_184_9]
        simp only [e_184_0, e_184_1, e_184_4, e_184_7, e_184_8, e_184_10, e_184_12, e_184_15, e_184_18, e_184_19, e_184_22, e_184_25, e_184_26, e_184_27, e_184_28, e_184_30, e_184_31, e_184_34, e_184_37, e_184_38, Option.bind_some, Option.bind_none, m_kt, m_kn, Option.toList_some, Option.toList_none, List.nil_append, List.cons_append, List.append_nil, ltn, ite_not, ↓reduceIte, true_or, or_true, nP1, oI_s, oI_n, bI_f, bI_t, i1_0, i0_0, Bool.false_eq_true, not_true_eq_false, not_false_eq_true, Zisc R, passes_ev O (e + 2) R h2 xw l_and, z, (show w_and.length = 3 from rfl), bv, emits_ev O (e + 8) R (show s + x.2.length < 400 by omega)]
        rw [wrM_app] at r ⊢
        exact r
theorem allM_ev (O : mO) (e : Nat) (X : MTL O) (R : RZ h m l B) {A : Nat → RS} {E : Nat} (G : GD l E true A) (H : HM O (e + 8) h m l dp A) (hp' : p ≤ l) (hs : s + 4 ≤ p) : MC (ev O (e + 9) 184 0 [.ref 66] [] (hz h m (nI p) b dp (nI s) V)) h m dp s V (alS B l A p) := by
  have bv := H p s V b hp' hs
  show MC _ h m dp s V (sbd ((A) p) fun x => pre x.2 (lpP B l (tWd B l w_and) (A) 12 x.1))
  cases eb : (A) p with
  | inl e1 =>
    rw [eb] at bv
    obtain ⟨p', dp', s', V', bv, bw⟩ := bv
    refine ⟨p', dp', s', V', ?_, bw⟩
    simp only [e_184_0, e_184_1, e_184_4, e_184_7, e_184_8, e_184_10, e_184_12, e_184_15, e_184_18, e_184_19, e_184_22, e_184_25, e_184_26, e_184_27, e_184_28, e_184_30, e_184_31, e_184_34, e_184_37, e_184_38, Option.bind_some, Option.bind_none, m_kt, m_kn, Option.toList_some, Option.toList_none, List.nil_append, List.cons_append, List.append_nil, ltn, ite_not, ↓reduceIte, true_or, or_true, nP1, oI_s, oI_n, bI_f, bI_t, i1_0, i0_0, Bool.false_eq_true, not_true_eq_false, not_false_eq_true, Zisc R, bv, z01]
  | inr x =>
    rw [eb] at bv
    obtain ⟨b1, bv⟩ := bv
    obtain ⟨x1, x2, x3, -⟩ := G _ x hp' eb
    simp only [sbd_r]
    refine MC_pre ?_
    have r := allM_run (dp := dp) O e X R G H (l + 1) (p := x.1) (s := s + x.2.length) (V := wrM V s x.2) (b := b1) (by omega) x2 (by omega)
    simp only [e_184_0, e_184_1, e_184_4, e_184_7, e_184_8, e_184_10, e_184_12, e_184_15, e_184_18, e_184_19, e_184_22, e_184_25, e_184_26, e_184_27, e_184_28, e_184_30, e_184_31, e_184_34, e_184_37, e_184_38, Option.bind_some, Option.bind_none, m_kt, m_kn, Option.toList_some, Option.toList_none, List.nil_append, List.cons_append, List.append_nil, ltn, ite_not, ↓reduceIte, true_or, or_true, nP1, oI_s, oI_n, bI_f, bI_t, i1_0, i0_0, Bool.false_eq_true, not_true_eq_false, not_false_eq_true, Zisc R, bv]
    exact r
theorem conM_run (O : mO) (e : Nat) (X : MTL O) (R : RZ h m l B) {A : Nat → RS} {E : Nat} (G : GD l E true A) (H : HM O (e + 8) h m l dp A) : ∀ (f : Nat) {p s : Nat} {V : WD} {b : Int32}, l < f + p → p ≤ l → s + 4 ≤ p → MC (ev O (e + 10) 185 9 [.ref 66] [] (hz h m (nI p) b dp (nI s) V)) h m dp s V (lpP B l (tWd B l w_or) (alS B l A) 13 p) := by
  have hl := R.2.2.2.2
  have X0 := X
  obtain ⟨-, -, -, -, -, -, -, -, -, -, -, -, -, xw⟩ := X
  intro f
  induction f with
  | zero => intro p s V b h1 h2; omega
  | succ f ih =>
    intro p s V b h1 h2 h3
    have sp := sb_le (B := B) h2
    have sq := sb_ge B l p
    rw [lpP_eq (tWd_g l_or) (alS_ok G).av h2]
    cases z : wd B l (sb B l p) w_or
    · have tn : (tWd B l w_or) p = none := by unfold tWd; rw [z]; rfl
      rw [tn]
      refine ⟨nI (sb B l p), ?_⟩
      rw [e_185_9]
      simp only [e_185_0, e_185_1, e_185_4, e_185_7, e_185_8, e_185_10, e_185_12, e_185_15, e_185_18, e_185_19, e_185_22, e_185_25, e_185_26, e_185_27, e_185_28, e_185_30, e_185_31, e_185_34, e_185_37, e_185_38, Option.bind_some, Option.bind_none, m_kt, m_kn, Option.toList_some, Option.toList_none, List.nil_append, List.cons_append, List.append_nil, ltn, ite_not, ↓reduceIte, true_or, or_true, nP1, oI_s, oI_n, bI_f, bI_t, i1_0, i0_0, Bool.false_eq_true, not_true_eq_false, not_false_eq_true, Zisc R, passes_ev O (e + 3) R h2 xw l_or, z, o01, List.length_nil, Nat.add_zero, wrM]
    · have tn : (tWd B l w_or) p = some (sb B l p + 2) := by unfold tWd; rw [z]; rfl
      have wl : sb B l p + 2 ≤ l := (wd_le l_or z).2
      rw [tn]
      have bv := allM_ev (b := nI (sb B l p)) (V := V) (p := sb B l p + 2) (s := s) O e X0 R G H wl (by omega)
      simp only
      cases eb : (alS B l A) (sb B l p + 2) with
      | inl e1 =>
        rw [eb] at bv
        obtain ⟨p', dp', s', V', bv, bw⟩ := bv
        refine ⟨p', dp', s', V', ?_, bw⟩
        rw [e_185_9]
        simp only [e_185_0, e_185_1, e_185_4, e_185_7, e_185_8, e_185_10, e_185_12, e_185_15, e_185_18, e_185_19, e_185_22, e_185_25, e_185_26, e_185_27, e_185_28, e_185_30, e_185_31, e_185_34, e_185_37, e_185_38, Option.bind_some, Option.bind_none, m_kt, m_kn, Option.toList_some, Option.toList_none, List.nil_append, List.cons_append, List.append_nil, ltn, ite_not, ↓reduceIte, true_or, or_true, nP1, oI_s, oI_n, bI_f, bI_t, i1_0, i0_0, Bool.false_eq_true, not_true_eq_false, not_false_eq_true, Zisc R, passes_ev O (e + 3) R h2 xw l_or, z, (show w_or.length = 2 from rfl), bv, z01]
      | inr x =>
        rw [eb] at bv
        obtain ⟨b1, bv⟩ := bv
        obtain ⟨x1, x2, x3, -⟩ := alS_ok G _ x wl eb
        simp only [sbd_r]
        refine MC_pre ?_
        have r := ih (p := x.1) (s := s + x.2.length + 1) (V := wrM V s (x.2 ++ [(13, 0)])) (b := b1) (by omega) x2 (by omega)
        rw [List.length_append, show [((13 : Nat), (0 : Int32))].length = 1 from rfl, ← Nat.add_assoc]
        rw [e_185_9]
        simp only [e_185_0, e_185_1, e_185_4, e_185_7, e_185_8, e_185_10, e_185_12, e_185_15, e_185_18, e_185_19, e_185_22, e_185_25, e_185_26, e_185_27, e_185_28, e_185_30, e_185_31, e_185_34, e_185_37, e_185_38, Option.bind_some, Option.bind_none, m_kt, m_kn, Option.toList_some, Option.toList_none, List.nil_append, List.cons_append, List.append_nil, ltn, ite_not, ↓reduceIte, true_or, or_true, nP1, oI_s, oI_n, bI_f, bI_t, i1_0, i0_0, Bool.false_eq_true, not_true_eq_false, not_false_eq_true, Zisc R, passes_ev O (e + 3) R h2 xw l_or, z, (show w_or.length = 2 from rfl), bv, emits_ev O (e + 9) R (show s + x.2.length < 400 by omega)]
        rw [wrM_app] at r ⊢
        exact r
theorem conM_ev (O : mO) (e : Nat) (X : MTL O) (R : RZ h m l B) {A : Nat → RS} {E : Nat} (G : GD l E true A) (H : HM O (e + 8) h m l dp A) (hp' : p ≤ l) (hs : s + 4 ≤ p) : MC (ev O (e + 10) 185 0 [.ref 66] [] (hz h m (nI p) b dp (nI s) V)) h m dp s V (cnS B l A p) := by
  have bv := allM_ev (b := b) (V := V) O e X R G H hp' hs
  show MC _ h m dp s V (sbd ((alS B l A) p) fun x => pre x.2 (lpP B l (tWd B l w_or) (alS B l A) 13 x.1))
  cases eb : (alS B l A) p with
  | inl e1 =>
    rw [eb] at bv
    obtain ⟨p', dp', s', V', bv, bw⟩ := bv
    refine ⟨p', dp', s', V', ?_, bw⟩
    simp only [e_185_0, e_185_1, e_185_4, e_185_7, e_185_8, e_185_10, e_185_12, e_185_15, e_185_18, e_185_19, e_185_22, e_185_25, e_185_26, e_185_27, e_185_28, e_185_30, e_185_31, e_185_34, e_185_37, e_185_38, Option.bind_some, Option.bind_none, m_kt, m_kn, Option.toList_some, Option.toList_none, List.nil_append, List.cons_append, List.append_nil, ltn, ite_not, ↓reduceIte, true_or, or_true, nP1, oI_s, oI_n, bI_f, bI_t, i1_0, i0_0, Bool.false_eq_true, not_true_eq_false, not_false_eq_true, Zisc R, bv, z01]
  | inr x =>
    rw [eb] at bv
    obtain ⟨b1, bv⟩ := bv
    obtain ⟨x1, x2, x3, -⟩ := alS_ok G _ x hp' eb
    simp only [sbd_r]
    refine MC_pre ?_
    have r := conM_run (dp := dp) O e X R G H (l + 1) (p := x.1) (s := s + x.2.length) (V := wrM V s x.2) (b := b1) (by omega) x2 (by omega)
    simp only [e_185_0, e_185_1, e_185_4, e_185_7, e_185_8, e_185_10, e_185_12, e_185_15, e_185_18, e_185_19, e_185_22, e_185_25, e_185_26, e_185_27, e_185_28, e_185_30, e_185_31, e_185_34, e_185_37, e_185_38, Option.bind_some, Option.bind_none, m_kt, m_kn, Option.toList_some, Option.toList_none, List.nil_append, List.cons_append, List.append_nil, ltn, ite_not, ↓reduceIte, true_or, or_true, nP1, oI_s, oI_n, bI_f, bI_t, i1_0, i0_0, Bool.false_eq_true, not_true_eq_false, not_false_eq_true, Zisc R, bv]
    exact r
end LawM
