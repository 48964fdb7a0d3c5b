/-! The reference reads lines of the law; its call shame -/
theorem wd_ne {B : Nat → Int32} {l q : Nat} {s s' : List Nat} (L : low s) (L' : low s') (h : wd B l q s = true) (ne : ¬ s.getD 0 0 = s'.getD 0 0) : wd B l q s' = false := by
  cases z : wd B l q s'
  · rfl
  · exfalso
    unfold wd at h z
    simp only [Bool.and_eq_true] at h z
    have a := mat_i h.2.2 L.1
    have b := mat_i z.2.2 L'.1
    rw [a] at b
    have c := L.2.2 0 L.1
    have d := L'.2.2 0 L'.1
    exact ne ((nI_eq (by omega) (by omega)).mp b)
theorem wrM_o : ∀ (c : CO) (V : WD) (s : Nat) {i : Nat}, (i < 1301 + 2 * s ∨ 1301 + 2 * (s + c.length) ≤ i) → wrM V s c i = V i
  | [], V, s, i, h => rfl
  | (k, x) :: r, V, s, i, h => by
    unfold wrM
    simp only [List.length_cons] at h
    rw [wrM_o r _ _ (by omega), pk_un (by omega), pk_un (by omega)]
theorem wrM_at : ∀ (c : CO) (V : WD) (s : Nat) {j : Nat} (hj : j < c.length), wrM V s c (1301 + 2 * (s + j)) = nI (c[j]).1 ∧ wrM V s c (1301 + 2 * (s + j) + 1) = (c[j]).2
  | [], V, s, j, h => by simp at h
  | (k, x) :: r, V, s, j, h => by
    unfold wrM
    cases j with
    | zero =>
      rw [Nat.add_zero, wrM_o r _ _ (by omega), wrM_o r _ _ (by omega)]
      exact ⟨by rw [pk_un (by omega)]; exact pk_us, pk_us⟩
    | succ j =>
      simp only [List.length_cons] at h
      have := wrM_at r (upd (upd V (1301 + 2 * s) (nI k)) (1301 + 2 * s + 1) x) (s + 1) (j := j) (by omega)
      rw [show s + (j + 1) = s + 1 + j by omega]
      exact this
def LnM (V : WD) : Nat → Nat → List LN → Prop
  | _, _, [] => True
  | i, s, x :: r => V (1265 + 3 * i) = x.1 ∧ V (1265 + 3 * i + 1) = nI s ∧ V (1265 + 3 * i + 2) = nI (s + x.2.length) ∧ (∀ j (hj : j < x.2.length), V (1301 + 2 * (s + j)) = nI (x.2[j]).1 ∧ V (1301 + 2 * (s + j) + 1) = (x.2[j]).2) ∧ LnM V (i + 1) (s + x.2.length) r
def MLx (r : Option mR) (h : mH) (m : Nat → Int32) (n s : Nat) (V : WD) (res : Nat ⊕ (LN × Nat)) : Prop := match res with
  | .inl f => ∃ p' dp' s' V', r = some (.inl (some (.int (0))), hz h m p' (nI f) dp' s' V') ∧ ∀ i, i < 1264 → V' i = V i
  | .inr x => ∃ b' dp' V', r = some (.inl (some (.int (1))), hz h m (nI x.2) b' dp' (nI (s + x.1.2.length)) V') ∧ V' (1265 + 3 * n) = x.1.1 ∧ V' (1265 + 3 * n + 1) = nI s ∧ V' (1265 + 3 * n + 2) = nI (s + x.1.2.length) ∧ (∀ j (hj : j < x.1.2.length), V' (1301 + 2 * (s + j)) = nI (x.1.2[j]).1 ∧ V' (1301 + 2 * (s + j) + 1) = (x.1.2[j]).2) ∧ (∀ j, j < 1265 + 3 * n → V' j = V j) ∧ ∀ j, 1301 ≤ j → j < 1301 + 2 * s → V' j = V j
section ShameM
variable {h : mH} {m : Nat → Int32} {l p q s : Nat} {B : Nat → Int32} {b dp : Int32} {V : WD}
theorem nL1265 (k : Nat) : (1265 : Int32) + nI k = nI (1265 + k) := nI_add 1265 k
theorem lineM_fin (O : mO) (d : Nat) (X : MTL O) (R : RZ h m l B) {n : Nat} (hn : n < 12) (hp' : p ≤ l) (hs : s + 4 ≤ p) (f g kd : Int32) (hv : f = 0 ∨ (0 ≤ V (1265 + 3 * n)) = True) (hk : V (1265 + 3 * n) = kd) : MLx (ev O (d + 29) 186 75 [.ref 66, .int (nI n), .int (nI (1265 + 3 * n)), .int f, .int g] [] (hz h m (nI p) b dp (nI s) V)) h m n s V (if wd B l (sb B l p) w_if = true then sbd (cnS B l (lev B l 6) (sb B l p + 2)) fun x => .inr ((kd, x.2), x.1) else .inr ((kd, []), sb B l p)) := by
  have X0 := X
  obtain ⟨-, -, -, xif, -⟩ := X
  have hl := R.2.2.2.2
  have sp := sb_le (B := B) hp'
  have sq := sb_ge B l p
  have e0 : ev O (d + 29) 186 75 [.ref 66, .int (nI n), .int (nI (1265 + 3 * n)), .int f, .int g] [] (hz h m (nI p) b dp (nI s) V) = ev O (d + 29) 186 90 [.ref 66, .int (nI n), .int (nI (1265 + 3 * n)), .int f, .int g] [] (hz h m (nI p) b dp (nI s) V) := by
    by_cases z : f = 0
    · simp only [e_186_0, e_186_3, e_186_4, e_186_5, e_186_6, e_186_7, e_186_8, e_186_9, e_186_11, e_186_14, e_186_15, e_186_16, e_186_18, e_186_21, e_186_23, e_186_24, e_186_27, e_186_29, e_186_32, e_186_33, e_186_35, e_186_38, e_186_41, e_186_42, e_186_43, e_186_44, e_186_47, e_186_48, e_186_49, e_186_52, e_186_53, e_186_54, e_186_57, e_186_60, e_186_63, e_186_65, e_186_68, e_186_70, e_186_73, e_186_74, e_186_75, e_186_76, e_186_79, e_186_80, e_186_83, e_186_84, e_186_85, e_186_88, e_186_89, e_186_91, e_186_94, e_186_95, e_186_96, e_186_97, e_186_98, e_186_101, e_186_102, e_186_103, e_186_104, e_186_107, e_186_108, e_186_110, e_186_113, e_186_116, e_186_117, e_186_120, e_186_123, e_186_124, e_186_125, e_186_126, e_186_129, e_186_130, e_186_131, e_186_132, e_186_133, e_186_136, e_186_137, e_186_138, Option.bind_some, Option.bind_none, m_kt, m_kn, Option.toList_some, Option.toList_none, List.nil_append, List.cons_append, List.append_nil, ltn, ite_not, ↓reduceIte, true_or, or_true, nP1, oI_s, oI_n, bI_f, bI_t, i1_0, i0_0, Bool.false_eq_true, not_true_eq_false, not_false_eq_true, z]
    · have hv := hv.resolve_left z
      simp only [e_186_0, e_186_3, e_186_4, e_186_5, e_186_6, e_186_7, e_186_8, e_186_9, e_186_11, e_186_14, e_186_15, e_186_16, e_186_18, e_186_21, e_186_23, e_186_24, e_186_27, e_186_29, e_186_32, e_186_33, e_186_35, e_186_38, e_186_41, e_186_42, e_186_43, e_186_44, e_186_47, e_186_48, e_186_49, e_186_52, e_186_53, e_186_54, e_186_57, e_186_60, e_186_63, e_186_65, e_186_68, e_186_70, e_186_73, e_186_74, e_186_75, e_186_76, e_186_79, e_186_80, e_186_83, e_186_84, e_186_85, e_186_88, e_186_89, e_186_91, e_186_94, e_186_95, e_186_96, e_186_97, e_186_98, e_186_101, e_186_102, e_186_103, e_186_104, e_186_107, e_186_108, e_186_110, e_186_113, e_186_116, e_186_117, e_186_120, e_186_123, e_186_124, e_186_125, e_186_126, e_186_129, e_186_130, e_186_131, e_186_132, e_186_133, e_186_136, e_186_137, e_186_138, Option.bind_some, Option.bind_none, m_kt, m_kn, Option.toList_some, Option.toList_none, List.nil_append, List.cons_append, List.append_nil, ltn, ite_not, ↓reduceIte, true_or, or_true, nP1, oI_s, oI_n, bI_f, bI_t, i1_0, i0_0, Bool.false_eq_true, not_true_eq_false, not_false_eq_true, z, gz1 R, (ZMS R).w.w (show 1265 + 3 * n < 2101 by omega), hv]
  rw [e0]
  let V1 : WD := upd V (1265 + 3 * n + 1) (nI s)
  cases z : wd B l (sb B l p) w_if
  · simp only [Bool.false_eq_true, ↓reduceIte]
    refine ⟨nI (sb B l p), 0, upd V1 (1265 + 3 * n + 2) (nI s), ?_, ?_, ?_, pk_us, fun j hj => absurd hj (Nat.not_lt_zero _), fun j hj => ?_, fun j h1 h2 => ?_⟩
    · simp only [e_186_0, e_186_3, e_186_4, e_186_5, e_186_6, e_186_7, e_186_8, e_186_9, e_186_11, e_186_14, e_186_15, e_186_16, e_186_18, e_186_21, e_186_23, e_186_24, e_186_27, e_186_29, e_186_32, e_186_33, e_186_35, e_186_38, e_186_41, e_186_42, e_186_43, e_186_44, e_186_47, e_186_48, e_186_49, e_186_52, e_186_53, e_186_54, e_186_57, e_186_60, e_186_63, e_186_65, e_186_68, e_186_70, e_186_73, e_186_74, e_186_75, e_186_76, e_186_79, e_186_80, e_186_83, e_186_84, e_186_85, e_186_88, e_186_89, e_186_90, e_186_91, e_186_94, e_186_95, e_186_96, e_186_97, e_186_98, e_186_101, e_186_102, e_186_103, e_186_104, e_186_107, e_186_108, e_186_110, e_186_113, e_186_116, e_186_117, e_186_120, e_186_123, e_186_124, e_186_125, e_186_126, e_186_129, e_186_130, e_186_131, e_186_132, e_186_133, e_186_136, e_186_137, e_186_138, Option.bind_some, Option.bind_none, m_kt, m_kn, Option.toList_some, Option.toList_none, List.nil_append, List.cons_append, List.append_nil, ltn, ite_not, ↓reduceIte, true_or, or_true, nP1, oI_s, oI_n, bI_f, bI_t, i1_0, i0_0, Bool.false_eq_true, not_true_eq_false, not_false_eq_true, gz1 R, gz15 R, sz67 R (show 1265 + 3 * n + 1 < 2101 by omega), pz12 R, Zisc R, passes_ev O (d + 22) R hp' xif l_if, z, nP2, sz67 R (show 1265 + 3 * n + 2 < 2101 by omega), o01, List.length_nil, Nat.add_zero]
      rfl
    · show upd (upd V _ _) _ _ _ = _
      rw [pk_un (by omega), pk_un (by omega)]; exact hk
    · show upd (upd V _ _) _ _ _ = _
      rw [pk_un (by omega), pk_us]
    · show upd (upd V _ _) _ _ _ = _
      rw [pk_un (by omega), pk_un (by omega)]
    · show upd (upd V _ _) _ _ _ = _
      rw [pk_un (by omega), pk_un (by omega)]
  · have wl : sb B l p + 2 ≤ l := (wd_le l_if z).2
    have rc := conM_ev (b := nI (sb B l p)) (dp := nI (6 - 6)) (p := sb B l p + 2) (s := s) (V := V1) O (d + 18) X0 R (lev_ok 6) (levM_ev O X0 R 6 (by omega) (d + 18) (by omega)) wl (by omega)
    simp only [↓reduceIte]
    cases e : cnS B l (lev B l 6) (sb B l p + 2) with
    | inl f' =>
      rw [e] at rc
      obtain ⟨p', dp', s', V', rc, rc'⟩ := rc
      have rc : ev O (d + 28) 185 0 [.ref 66] [] (hz h m (nI (sb B l p + 2)) (nI (sb B l p)) 0 (nI s) (upd V (1265 + 3 * n + 1) (nI s))) = _ := rc
      refine ⟨p', dp', s', V', ?_, fun i hi => by rw [rc' i hi]; exact pk_un (by omega)⟩
      simp only [e_186_0, e_186_3, e_186_4, e_186_5, e_186_6, e_186_7, e_186_8, e_186_9, e_186_11, e_186_14, e_186_15, e_186_16, e_186_18, e_186_21, e_186_23, e_186_24, e_186_27, e_186_29, e_186_32, e_186_33, e_186_35, e_186_38, e_186_41, e_186_42, e_186_43, e_186_44, e_186_47, e_186_48, e_186_49, e_186_52, e_186_53, e_186_54, e_186_57, e_186_60, e_186_63, e_186_65, e_186_68, e_186_70, e_186_73, e_186_74, e_186_75, e_186_76, e_186_79, e_186_80, e_186_83, e_186_84, e_186_85, e_186_88, e_186_89, e_186_90, e_186_91, e_186_94, e_186_95, e_186_96, e_186_97, e_186_98, e_186_101, e_186_102, e_186_103, e_186_104, e_186_107, e_186_108, e_186_110, e_186_113, e_186_116, e_186_117, e_186_120, e_186_123, e_186_124, e_186_125, e_186_126, e_186_129, e_186_130, e_186_131, e_186_132, e_186_133, e_186_136, e_186_137, e_186_138, Option.bind_some, Option.bind_none, m_kt, m_kn, Option.toList_some, Option.toList_none, List.nil_append, List.cons_append, List.append_nil, ltn, ite_not, ↓reduceIte, true_or, or_true, nP1, oI_s, oI_n, bI_f, bI_t, i1_0, i0_0, Bool.false_eq_true, not_true_eq_false, not_false_eq_true, gz1 R, gz15 R, sz67 R (show 1265 + 3 * n + 1 < 2101 by omega), pz12 R, Zisc R, passes_ev O (d + 22) R hp' xif l_if, z, (show w_if.length = 2 from rfl), rc, z01]
    | inr x =>
      rw [e] at rc
      obtain ⟨b1, rc⟩ := rc
      have rc : ev O (d + 28) 185 0 [.ref 66] [] (hz h m (nI (sb B l p + 2)) (nI (sb B l p)) 0 (nI s) (upd V (1265 + 3 * n + 1) (nI s))) = _ := rc
      refine ⟨b1, nI (6 - 6), upd (wrM V1 s x.2) (1265 + 3 * n + 2) (nI (s + x.2.length)), ?_, ?_, ?_, pk_us, fun j hj => ?_, fun j hj => ?_, fun j h1 h2 => ?_⟩
      · simp only [e_186_0, e_186_3, e_186_4, e_186_5, e_186_6, e_186_7, e_186_8, e_186_9, e_186_11, e_186_14, e_186_15, e_186_16, e_186_18, e_186_21, e_186_23, e_186_24, e_186_27, e_186_29, e_186_32, e_186_33, e_186_35, e_186_38, e_186_41, e_186_42, e_186_43, e_186_44, e_186_47, e_186_48, e_186_49, e_186_52, e_186_53, e_186_54, e_186_57, e_186_60, e_186_63, e_186_65, e_186_68, e_186_70, e_186_73, e_186_74, e_186_75, e_186_76, e_186_79, e_186_80, e_186_83, e_186_84, e_186_85, e_186_88, e_186_89, e_186_90, e_186_91, e_186_94, e_186_95, e_186_96, e_186_97, e_186_98, e_186_101, e_186_102, e_186_103, e_186_104, e_186_107, e_186_108, e_186_110, e_186_113, e_186_116, e_186_117, e_186_120, e_186_123, e_186_124, e_186_125, e_186_126, e_186_129, e_186_130, e_186_131, e_186_132, e_186_133, e_186_136, e_186_137, e_186_138, Option.bind_some, Option.bind_none, m_kt, m_kn, Option.toList_some, Option.toList_none, List.nil_append, List.cons_append, List.append_nil, ltn, ite_not, ↓reduceIte, true_or, or_true, nP1, oI_s, oI_n, bI_f, bI_t, i1_0, i0_0, Bool.false_eq_true, not_true_eq_false, not_false_eq_true, gz1 R, gz15 R, sz67 R (show 1265 + 3 * n + 1 < 2101 by omega), pz12 R, Zisc R, passes_ev O (d + 22) R hp' xif l_if, z, (show w_if.length = 2 from rfl), rc, nP2, sz67 R (show 1265 + 3 * n + 2 < 2101 by omega), o01]
      · rw [pk_un (by omega), wrM_lo _ _ _ (by omega)]
        show upd V _ _ _ = _
        rw [pk_un (by omega)]; exact hk
      · rw [pk_un (by omega), wrM_lo _ _ _ (by omega)]
        exact pk_us
      · rw [pk_un (by omega), pk_un (by omega)]
        exact wrM_at _ _ _ hj
      · rw [pk_un (by omega), wrM_lo _ _ _ (by omega)]
        exact pk_un (by omega)
      · rw [pk_un (by omega), wrM_o _ _ _ (by omega)]
        exact pk_un (by omega)
theorem MLx_lo {r : Option mR} {n : Nat} {V1 : WD} {res : Nat ⊕ (LN × Nat)} (L : MLx r h m n s V1 res) (a : ∀ j, j < 1265 + 3 * n → V1 j = V j) (c : ∀ j, 1301 ≤ j → j < 1301 + 2 * s → V1 j = V j) : MLx r h m n s V res := by
  unfold MLx at *
  cases res with
  | inl f =>
    obtain ⟨p', dp', s', V', a1, a2⟩ := L
    exact ⟨p', dp', s', V', a1, fun i hi => by rw [a2 i hi, a i (by omega)]⟩
  | inr x =>
    obtain ⟨b', dp', V', a1, a2, a3, a4, a5, a6, a7⟩ := L
    exact ⟨b', dp', V', a1, a2, a3, a4, a5, fun j hj => by rw [a6 j hj, a j hj], fun j h1 h2 => by rw [a7 j h1 h2, c j h1 h2]⟩
theorem shameLineM_ev (O : mO) (d : Nat) (X : MTL O) (R : RZ h m l B) {n : Nat} (hn : n < 12) (hq : q ≤ l) (hs : s ≤ q) : MLx (ev O (d + 29) 186 0 [.ref 66, .int (nI n), mJ, mJ, mJ] [] (hz h m (nI (le' B l q)) (nI q) dp (nI s) V)) h m n s V (sbd (hedS B l q) fun k => if wd B l (sb B l k.2) w_if = true then sbd (cnS B l (lev B l 6) (sb B l k.2 + 2)) fun x => .inr ((k.1, x.2), x.1) else .inr ((k.1, []), sb B l k.2)) := by
  have X0 := X
  obtain ⟨xfi, xsh, xhi, -⟩ := X
  have k3 : (1265 : Int32) + 3 * nI n = nI (1265 + 3 * n) := by rw [nx3, nL1265]
  have w1 : ∀ {k : Nat} {s' : List Nat}, TX O k s' → low s' → ev O (d + 28) 170 0 [.ref 66, .retAddr k, mJ, mJ] [] (hz h m (nI (le' B l q)) (nI q) dp (nI s) V) = some (.inl (some (.int (bI (wd B l q s')))), hz h m (nI (le' B l q)) (nI q) dp (nI s) V) := fun X L => isWord_ev O (d + 23) R hq X L
  have lo : ∀ x j, j < 1265 + 3 * n → upd V (1265 + 3 * n) x j = V j := fun x j hj => pk_un (by omega)
  have lo2 : ∀ x j, 1301 ≤ j → j < 1301 + 2 * s → upd V (1265 + 3 * n) x j = V j := fun x j h1 h2 => pk_un (by omega)
  unfold hedS
  cases z1 : wd B l q w_hide
  · cases z2 : wd B l q w_show
    · cases z3 : wd B l q w_fine
      · refine ⟨nI (le' B l q), dp, nI s, V, ?_, fun i hi => rfl⟩
        simp only [e_186_0, e_186_3, e_186_4, e_186_5, e_186_6, e_186_7, e_186_8, e_186_9, e_186_11, e_186_14, e_186_15, e_186_16, e_186_18, e_186_21, e_186_23, e_186_24, e_186_27, e_186_29, e_186_32, e_186_33, e_186_35, e_186_38, e_186_41, e_186_42, e_186_43, e_186_44, e_186_47, e_186_48, e_186_49, e_186_52, e_186_53, e_186_54, e_186_57, e_186_60, e_186_63, e_186_65, e_186_68, e_186_70, e_186_73, e_186_74, e_186_76, e_186_79, e_186_80, e_186_83, e_186_84, e_186_85, e_186_88, e_186_89, e_186_90, e_186_91, e_186_94, e_186_95, e_186_96, e_186_97, e_186_98, e_186_101, e_186_102, e_186_103, e_186_104, e_186_107, e_186_108, e_186_110, e_186_113, e_186_116, e_186_117, e_186_120, e_186_123, e_186_124, e_186_125, e_186_126, e_186_129, e_186_130, e_186_131, e_186_132, e_186_133, e_186_136, e_186_137, e_186_138, Option.bind_some, Option.bind_none, m_kt, m_kn, Option.toList_some, Option.toList_none, List.nil_append, List.cons_append, List.append_nil, ltn, ite_not, ↓reduceIte, true_or, or_true, nP1, oI_s, oI_n, bI_f, bI_t, i1_0, i0_0, Bool.false_eq_true, not_true_eq_false, not_false_eq_true, Zisc R, w1 xfi l_fine, z3, w1 xsh l_show, z2, w1 xhi l_hide, z1, z01]
      · obtain ⟨le, wl⟩ := wd_le l_fine z3
        rw [show w_fine.length = 4 from rfl] at le wl
        simp only [Bool.false_eq_true, ↓reduceIte]
        unfold nmS
        cases e : num B l (q + 4) 0 999 with
        | none =>
          have vv : upd V (1265 + 3 * n) (-1) (1265 + 3 * n) = -1 := pk_us
          refine ⟨nI (de' B l (sb B l (q + 4))), dp, nI s, upd V (1265 + 3 * n) (-1), ?_, fun i hi => lo _ i (by omega)⟩
          rw [le] at w1 ⊢
          simp only [e_186_0, e_186_3, e_186_4, e_186_5, e_186_6, e_186_7, e_186_8, e_186_9, e_186_11, e_186_14, e_186_15, e_186_16, e_186_18, e_186_21, e_186_23, e_186_24, e_186_27, e_186_29, e_186_32, e_186_33, e_186_35, e_186_38, e_186_41, e_186_42, e_186_43, e_186_44, e_186_47, e_186_48, e_186_49, e_186_52, e_186_53, e_186_54, e_186_57, e_186_60, e_186_63, e_186_65, e_186_68, e_186_70, e_186_73, e_186_74, e_186_75, e_186_76, e_186_79, e_186_80, e_186_83, e_186_84, e_186_85, e_186_88, e_186_89, e_186_90, e_186_91, e_186_94, e_186_95, e_186_96, e_186_97, e_186_98, e_186_101, e_186_102, e_186_103, e_186_104, e_186_107, e_186_108, e_186_110, e_186_113, e_186_116, e_186_117, e_186_120, e_186_123, e_186_124, e_186_125, e_186_126, e_186_129, e_186_130, e_186_131, e_186_132, e_186_133, e_186_136, e_186_137, e_186_138, Option.bind_some, Option.bind_none, m_kt, m_kn, Option.toList_some, Option.toList_none, List.nil_append, List.cons_append, List.append_nil, ltn, ite_not, ↓reduceIte, true_or, or_true, nP1, oI_s, oI_n, bI_f, bI_t, i1_0, i0_0, Bool.false_eq_true, not_true_eq_false, not_false_eq_true, Zisc R, k3, w1 xfi l_fine, z3, w1 xsh l_show, z2, gz1 R, number_ev O (d + 26) R wl, e, Option.elim_none, sz67 R (show 1265 + 3 * n < 2101 by omega), (ZMS R).w.w (show 1265 + 3 * n < 2101 by omega), vv, m1_0, z01]
        | some x =>
          obtain ⟨x1, x2, x3⟩ := nm_pos e
          have vv : upd V (1265 + 3 * n) x.1 (1265 + 3 * n) = x.1 := pk_us
          have r := lineM_fin (b := nI (sb B l (q + 4))) (dp := dp) (p := x.2) (s := s) (V := upd V (1265 + 3 * n) x.1) O d X0 R hn x2 (by omega) 1 0 x.1 (.inr (by rw [vv]; exact x1)) vv
          rw [le] at w1 ⊢
          simp only [e_186_0, e_186_3, e_186_4, e_186_5, e_186_6, e_186_7, e_186_8, e_186_9, e_186_11, e_186_14, e_186_15, e_186_16, e_186_18, e_186_21, e_186_23, e_186_24, e_186_27, e_186_29, e_186_32, e_186_33, e_186_35, e_186_38, e_186_41, e_186_42, e_186_43, e_186_44, e_186_47, e_186_48, e_186_49, e_186_52, e_186_53, e_186_54, e_186_57, e_186_60, e_186_63, e_186_65, e_186_68, e_186_70, e_186_73, e_186_74, e_186_76, e_186_79, e_186_80, e_186_83, e_186_84, e_186_85, e_186_88, e_186_89, e_186_90, e_186_91, e_186_94, e_186_95, e_186_96, e_186_97, e_186_98, e_186_101, e_186_102, e_186_103, e_186_104, e_186_107, e_186_108, e_186_110, e_186_113, e_186_116, e_186_117, e_186_120, e_186_123, e_186_124, e_186_125, e_186_126, e_186_129, e_186_130, e_186_131, e_186_132, e_186_133, e_186_136, e_186_137, e_186_138, Option.bind_some, Option.bind_none, m_kt, m_kn, Option.toList_some, Option.toList_none, List.nil_append, List.cons_append, List.append_nil, ltn, ite_not, ↓reduceIte, true_or, or_true, nP1, oI_s, oI_n, bI_f, bI_t, i1_0, i0_0, Bool.false_eq_true, not_true_eq_false, not_false_eq_true, Zisc R, k3, w1 xfi l_fine, z3, w1 xsh l_show, z2, gz1 R, number_ev O (d + 26) R wl, e, Option.elim_some, sz67 R (show 1265 + 3 * n < 2101 by omega), sbd_r]
          exact MLx_lo r (lo _) (lo2 _)
    · have z3 := wd_ne l_show l_fine z2 (by decide)
      obtain ⟨le, wl⟩ := wd_le l_show z2
      rw [show w_show.length = 4 from rfl] at le wl
      have r := lineM_fin (b := nI q) (dp := dp) (p := q + 4) (s := s) (V := upd V (1265 + 3 * n) (-2)) O d X0 R hn wl (by omega) 0 1 (-2) (.inl rfl) pk_us
      rw [le] at w1 ⊢
      simp only [e_186_0, e_186_3, e_186_4, e_186_5, e_186_6, e_186_7, e_186_8, e_186_9, e_186_11, e_186_14, e_186_15, e_186_16, e_186_18, e_186_21, e_186_23, e_186_24, e_186_27, e_186_29, e_186_32, e_186_33, e_186_35, e_186_38, e_186_41, e_186_42, e_186_43, e_186_44, e_186_47, e_186_48, e_186_49, e_186_52, e_186_53, e_186_54, e_186_57, e_186_60, e_186_63, e_186_65, e_186_68, e_186_70, e_186_73, e_186_74, e_186_76, e_186_79, e_186_80, e_186_83, e_186_84, e_186_85, e_186_88, e_186_89, e_186_90, e_186_91, e_186_94, e_186_95, e_186_96, e_186_97, e_186_98, e_186_101, e_186_102, e_186_103, e_186_104, e_186_107, e_186_108, e_186_110, e_186_113, e_186_116, e_186_117, e_186_120, e_186_123, e_186_124, e_186_125, e_186_126, e_186_129, e_186_130, e_186_131, e_186_132, e_186_133, e_186_136, e_186_137, e_186_138, Option.bind_some, Option.bind_none, m_kt, m_kn, Option.toList_some, Option.toList_none, List.nil_append, List.cons_append, List.append_nil, ltn, ite_not, ↓reduceIte, true_or, or_true, nP1, oI_s, oI_n, bI_f, bI_t, i1_0, i0_0, Bool.false_eq_true, not_true_eq_false, not_false_eq_true, Zisc R, k3, w1 xfi l_fine, z3, w1 xsh l_show, z2, gz1 R, sz67 R (show 1265 + 3 * n < 2101 by omega), sbd_r]
      exact MLx_lo r (lo _) (lo2 _)
  · have z3 := wd_ne l_hide l_fine z1 (by decide)
    have z2 := wd_ne l_hide l_show z1 (by decide)
    obtain ⟨le, wl⟩ := wd_le l_hide z1
    rw [show w_hide.length = 4 from rfl] at le wl
    have r := lineM_fin (b := nI q) (dp := dp) (p := q + 4) (s := s) (V := upd V (1265 + 3 * n) (-1)) O d X0 R hn wl (by omega) 0 0 (-1) (.inl rfl) pk_us
    rw [le] at w1 ⊢
    simp only [e_186_0, e_186_3, e_186_4, e_186_5, e_186_6, e_186_7, e_186_8, e_186_9, e_186_11, e_186_14, e_186_15, e_186_16, e_186_18, e_186_21, e_186_23, e_186_24, e_186_27, e_186_29, e_186_32, e_186_33, e_186_35, e_186_38, e_186_41, e_186_42, e_186_43, e_186_44, e_186_47, e_186_48, e_186_49, e_186_52, e_186_53, e_186_54, e_186_57, e_186_60, e_186_63, e_186_65, e_186_68, e_186_70, e_186_73, e_186_74, e_186_76, e_186_79, e_186_80, e_186_83, e_186_84, e_186_85, e_186_88, e_186_89, e_186_90, e_186_91, e_186_94, e_186_95, e_186_96, e_186_97, e_186_98, e_186_101, e_186_102, e_186_103, e_186_104, e_186_107, e_186_108, e_186_110, e_186_113, e_186_116, e_186_117, e_186_120, e_186_123, e_186_124, e_186_125, e_186_126, e_186_129, e_186_130, e_186_131, e_186_132, e_186_133, e_186_136, e_186_137, e_186_138, Option.bind_some, Option.bind_none, m_kt, m_kn, Option.toList_some, Option.toList_none, List.nil_append, List.cons_append, List.append_nil, ltn, ite_not, ↓reduceIte, true_or, or_true, nP1, oI_s, oI_n, bI_f, bI_t, i1_0, i0_0, Bool.false_eq_true, not_true_eq_false, not_false_eq_true, Zisc R, k3, w1 xfi l_fine, z3, w1 xsh l_show, z2, w1 xhi l_hide, z1, gz1 R, sz67 R (show 1265 + 3 * n < 2101 by omega), sbd_r]
    exact MLx_lo r (lo _) (lo2 _)
theorem MLx_b {r : Option mR} {n : Nat} {res : Nat ⊕ (LN × Nat)} (L : MLx r h m n s V res) {f : Option Value → mH → Option mR} (hf : ∀ (x : Int32) (h' : mH), (x = 0 ∨ x = 1) → f (some (.int x)) h' = some (.inl (some (.int (x))), h')) : MLx (r.bind (m_kt f)) h m n s V res := by
  unfold MLx at *
  cases res with
  | inl e =>
    obtain ⟨p', dp', s', V', a1, a2⟩ := L
    exact ⟨p', dp', s', V', by rw [a1]; exact hf 0 _ (.inl rfl), a2⟩
  | inr x =>
    obtain ⟨b', dp', V', a1, a2⟩ := L
    exact ⟨b', dp', V', by rw [a1]; exact hf 1 _ (.inr rfl), a2⟩
theorem readLineS_ev (O : mO) (d : Nat) (X : MTL O) (R : RZ h m l B) {n : Nat} (hn : n < 12) (hp' : p ≤ l) (hs : s ≤ p) : MLx (ev O (d + 30) 187 0 [.ref 66, .int 0, .int (nI n)] [] (hz h m (nI p) b dp (nI s) V)) h m n s V (lnS B l p) := by
  have c1 : ¬ (12 : Int32) ≤ nI n := nI_ge (b := 12) (by omega) (by omega)
  have sq := sb_ge B l p
  simp only [e_187_0, e_187_1, e_187_4, e_187_5, e_187_6, e_187_9, e_187_11, e_187_14, e_187_16, e_187_19, e_187_20, e_187_23, e_187_24, e_187_27, e_187_30, e_187_33, e_187_34, e_187_35, e_187_38, e_187_41, e_187_42, e_187_45, e_187_46, Option.bind_some, Option.bind_none, m_kt, m_kn, Option.toList_some, Option.toList_none, List.nil_append, List.cons_append, List.append_nil, ltn, ite_not, ↓reduceIte, true_or, or_true, nP1, oI_s, oI_n, bI_f, bI_t, i1_0, i0_0, Bool.false_eq_true, not_true_eq_false, not_false_eq_true, Zisc R, letters_ev O (d + 27) R hp', c1]
  refine MLx_b (shameLineM_ev O d X R hn (sb_le hp') (by omega)) (fun x h' hx => ?_)
  rcases hx with rfl | rfl <;> simp only [Option.toList_some, e_187_0, e_187_1, e_187_4, e_187_5, e_187_6, e_187_9, e_187_11, e_187_14, e_187_16, e_187_19, e_187_20, e_187_23, e_187_24, e_187_27, e_187_30, e_187_33, e_187_34, e_187_35, e_187_38, e_187_41, e_187_42, e_187_45, e_187_46, Option.bind_some, Option.bind_none, m_kt, m_kn, Option.toList_some, Option.toList_none, List.nil_append, List.cons_append, List.append_nil, ltn, ite_not, ↓reduceIte, true_or, or_true, nP1, oI_s, oI_n, bI_f, bI_t, i1_0, i0_0, Bool.false_eq_true, not_true_eq_false, not_false_eq_true, z01, o01]
def MYx (r : Option mR) (h : mH) (m : Nat → Int32) (i s : Nat) (V : WD) (res : Nat ⊕ List LN) : Prop := match res with
  | .inl f => ∃ p' dp' s' V', r = some (.inl (some (.int (-1))), hz h m p' (nI f) dp' s' V') ∧ ∀ i, i < 1264 → V' i = V i
  | .inr L => ∃ p' b' dp' s' V', r = some (.inl (some (.int (nI (i + L.length)))), hz h m p' b' dp' s' V') ∧ LnM V' i s L ∧ (∀ j, j < 1265 + 3 * i → V' j = V j) ∧ ∀ j, 1301 ≤ j → j < 1301 + 2 * s → V' j = V j
theorem readAllS_run (O : mO) (d : Nat) (X : MTL O) (R : RZ h m l B) : ∀ (k i : Nat) {p s : Nat} {V : WD} {b dp : Int32}, i + k = 12 → p ≤ l → s ≤ p → MYx (ev O (d + 31) 188 42 [.ref 66, .int 0, .int (nI i)] [] (hz h m (nI p) b dp (nI s) V)) h m i s V (lsS B l k p) := by
  have hl := R.2.2.2.2
  intro k
  induction k with
  | zero =>
    intro i p s V b dp hi hpl hs
    have c1 : (12 : Int32) ≤ nI i := nI_le (a := 12) (by omega) (by omega)
    refine ⟨nI (le' B l (sb B l p)), dp, nI s, V, ?_, fun i hi => rfl⟩
    have rl : ev O (d + 30) 187 0 [.ref 66, .int 0, .int (nI i)] [] (hz h m (nI p) b dp (nI s) V) = some (.inl (some (.int (0))), hz h m (nI (le' B l (sb B l p))) (nI (sb B l p)) dp (nI s) V) := by
      simp only [e_187_0, e_187_1, e_187_4, e_187_5, e_187_6, e_187_9, e_187_11, e_187_14, e_187_16, e_187_19, e_187_20, e_187_23, e_187_24, e_187_27, e_187_30, e_187_33, e_187_34, e_187_35, e_187_38, e_187_41, e_187_42, e_187_45, e_187_46, Option.bind_some, Option.bind_none, m_kt, m_kn, Option.toList_some, Option.toList_none, List.nil_append, List.cons_append, List.append_nil, ltn, ite_not, ↓reduceIte, true_or, or_true, nP1, oI_s, oI_n, bI_f, bI_t, i1_0, i0_0, Bool.false_eq_true, not_true_eq_false, not_false_eq_true, Zisc R, letters_ev O (d + 27) R hpl, c1, z01]
    rw [e_188_42]
    simp only [e_188_0, e_188_1, e_188_2, e_188_5, e_188_8, e_188_9, e_188_10, e_188_13, e_188_14, e_188_15, e_188_18, e_188_19, e_188_20, e_188_23, e_188_24, e_188_27, e_188_28, e_188_31, e_188_32, e_188_35, e_188_38, e_188_39, e_188_40, e_188_41, e_188_43, e_188_44, e_188_45, e_188_48, e_188_51, e_188_52, e_188_53, e_188_54, e_188_57, e_188_58, e_188_61, e_188_62, e_188_65, e_188_68, e_188_69, e_188_70, e_188_71, e_188_72, e_188_73, e_188_75, e_188_77, e_188_80, e_188_83, e_188_84, e_188_85, e_188_86, e_188_87, e_188_90, e_188_91, e_188_92, e_188_95, e_188_98, Option.bind_some, Option.bind_none, m_kt, m_kn, Option.toList_some, Option.toList_none, List.nil_append, List.cons_append, List.append_nil, ltn, ite_not, ↓reduceIte, true_or, or_true, nP1, oI_s, oI_n, bI_f, bI_t, i1_0, i0_0, Bool.false_eq_true, not_true_eq_false, not_false_eq_true, Zisc R, rl]
  | succ k ih =>
    intro i p s V b dp hi hpl hs
    have rl := readLineS_ev (b := b) (dp := dp) (V := V) O d X R (n := i) (by omega) hpl hs
    unfold lsS
    cases e : lnS B l p with
    | inl f =>
      rw [e] at rl
      obtain ⟨p', dp', s', V', rl, rl'⟩ := rl
      refine ⟨p', dp', s', V', ?_, rl'⟩
      rw [e_188_42]
      simp only [e_188_0, e_188_1, e_188_2, e_188_5, e_188_8, e_188_9, e_188_10, e_188_13, e_188_14, e_188_15, e_188_18, e_188_19, e_188_20, e_188_23, e_188_24, e_188_27, e_188_28, e_188_31, e_188_32, e_188_35, e_188_38, e_188_39, e_188_40, e_188_41, e_188_43, e_188_44, e_188_45, e_188_48, e_188_51, e_188_52, e_188_53, e_188_54, e_188_57, e_188_58, e_188_61, e_188_62, e_188_65, e_188_68, e_188_69, e_188_70, e_188_71, e_188_72, e_188_73, e_188_75, e_188_77, e_188_80, e_188_83, e_188_84, e_188_85, e_188_86, e_188_87, e_188_90, e_188_91, e_188_92, e_188_95, e_188_98, Option.bind_some, Option.bind_none, m_kt, m_kn, Option.toList_some, Option.toList_none, List.nil_append, List.cons_append, List.append_nil, ltn, ite_not, ↓reduceIte, true_or, or_true, nP1, oI_s, oI_n, bI_f, bI_t, i1_0, i0_0, Bool.false_eq_true, not_true_eq_false, not_false_eq_true, Zisc R, rl]
    | inr x =>
      rw [e] at rl
      obtain ⟨b1, dp1, V1, rl, q1, q2, q3, q4, q5, q6⟩ := rl
      obtain ⟨x1, x2, x3⟩ := lnS_ok hpl e
      have s2 := sb_le (B := B) x3
      have s3 := sb_ge B l x.2
      simp only [sbd_r]
      by_cases z : sb B l x.2 = l
      · rw [if_pos z]
        refine ⟨nI (sb B l x.2), nI (sb B l x.2), dp1, nI (s + x.1.2.length), V1, ?_, ⟨q1, q2, q3, q4, trivial⟩, q5, q6⟩
        rw [e_188_42]
        simp only [e_188_0, e_188_1, e_188_2, e_188_5, e_188_8, e_188_9, e_188_10, e_188_13, e_188_14, e_188_15, e_188_18, e_188_19, e_188_20, e_188_23, e_188_24, e_188_27, e_188_28, e_188_31, e_188_32, e_188_35, e_188_38, e_188_39, e_188_40, e_188_41, e_188_43, e_188_44, e_188_45, e_188_48, e_188_51, e_188_52, e_188_53, e_188_54, e_188_57, e_188_58, e_188_61, e_188_62, e_188_65, e_188_68, e_188_69, e_188_70, e_188_71, e_188_72, e_188_73, e_188_75, e_188_77, e_188_80, e_188_83, e_188_84, e_188_85, e_188_86, e_188_87, e_188_90, e_188_91, e_188_92, e_188_95, e_188_98, Option.bind_some, Option.bind_none, m_kt, m_kn, Option.toList_some, Option.toList_none, List.nil_append, List.cons_append, List.append_nil, ltn, ite_not, ↓reduceIte, true_or, or_true, nP1, oI_s, oI_n, bI_f, bI_t, i1_0, i0_0, Bool.false_eq_true, not_true_eq_false, not_false_eq_true, Zisc R, rl, blanks_ev O (d + 29) R x3, gz9 R, gz10 R, z, List.length_cons, List.length_nil]
      · rw [if_neg z]
        have nz : ¬ nI (sb B l x.2) = nI l := fun y => z ((nI_eq (by omega) (by omega)).mp y)
        have ea : atB B l (sb B l x.2) 59 59 = sg B l x.2 59 := by unfold atB sg; rw [at_eq]
        cases y : sg B l x.2 59
        · simp only [Bool.false_eq_true, ↓reduceIte]
          refine ⟨nI (sb B l x.2), dp1, nI (s + x.1.2.length), V1, ?_, fun i hi => q5 i (by omega)⟩
          rw [e_188_42]
          simp only [e_188_0, e_188_1, e_188_2, e_188_5, e_188_8, e_188_9, e_188_10, e_188_13, e_188_14, e_188_15, e_188_18, e_188_19, e_188_20, e_188_23, e_188_24, e_188_27, e_188_28, e_188_31, e_188_32, e_188_35, e_188_38, e_188_39, e_188_40, e_188_41, e_188_43, e_188_44, e_188_45, e_188_48, e_188_51, e_188_52, e_188_53, e_188_54, e_188_57, e_188_58, e_188_61, e_188_62, e_188_65, e_188_68, e_188_69, e_188_70, e_188_71, e_188_72, e_188_73, e_188_75, e_188_77, e_188_80, e_188_83, e_188_84, e_188_85, e_188_86, e_188_87, e_188_90, e_188_91, e_188_92, e_188_95, e_188_98, Option.bind_some, Option.bind_none, m_kt, m_kn, Option.toList_some, Option.toList_none, List.nil_append, List.cons_append, List.append_nil, ltn, ite_not, ↓reduceIte, true_or, or_true, nP1, oI_s, oI_n, bI_f, bI_t, i1_0, i0_0, Bool.false_eq_true, not_true_eq_false, not_false_eq_true, Zisc R, rl, blanks_ev O (d + 29) R x3, gz9 R, gz10 R, nz, isAt_ev O (d + 30) R s2, ea, y]
        · simp only [↓reduceIte]
          have r := ih (i + 1) (b := nI (sb B l x.2)) (dp := dp1) (p := sb B l x.2 + 1) (s := s + x.1.2.length) (V := V1) (by omega) (by omega) (by omega)
          have e0 : ev O (d + 31) 188 42 [.ref 66, .int 0, .int (nI i)] [] (hz h m (nI p) b dp (nI s) V) = ev O (d + 31) 188 42 [.ref 66, .int 0, .int (nI (i + 1))] [] (hz h m (nI (sb B l x.2 + 1)) (nI (sb B l x.2)) dp1 (nI (s + x.1.2.length)) V1) := by
            rw [e_188_42]
            simp only [e_188_0, e_188_1, e_188_2, e_188_5, e_188_8, e_188_9, e_188_10, e_188_13, e_188_14, e_188_15, e_188_18, e_188_19, e_188_20, e_188_23, e_188_24, e_188_27, e_188_28, e_188_31, e_188_32, e_188_35, e_188_38, e_188_39, e_188_40, e_188_41, e_188_43, e_188_44, e_188_45, e_188_48, e_188_51, e_188_52, e_188_53, e_188_54, e_188_57, e_188_58, e_188_61, e_188_62, e_188_65, e_188_68, e_188_69, e_188_70, e_188_71, e_188_72, e_188_73, e_188_75, e_188_77, e_188_80, e_188_83, e_188_84, e_188_85, e_188_86, e_188_87, e_188_90, e_188_91, e_188_92, e_188_95, e_188_98, Option.bind_some, Option.bind_none, m_kt, m_kn, Option.toList_some, Option.toList_none, List.nil_append, List.cons_append, List.append_nil, ltn, ite_not, ↓reduceIte, true_or, or_true, nP1, oI_s, oI_n, bI_f, bI_t, i1_0, i0_0, Bool.false_eq_true, not_true_eq_false, not_false_eq_true, Zisc R, rl, blanks_ev O (d + 29) R x3, gz9 R, gz10 R, nz, isAt_ev O (d + 30) R s2, ea, y, cat_ref, pz9 R]
          rw [e0]
          cases e2 : lsS B l k (sb B l x.2 + 1) with
          | inl f =>
            rw [e2] at r
            obtain ⟨p', dp', s', V', r1, r2⟩ := r
            exact ⟨p', dp', s', V', r1, fun j hj => by rw [r2 j hj, q5 j (by omega)]⟩
          | inr L =>
            rw [e2] at r
            obtain ⟨p', b', dp', s', V', r1, r2, r3, r4⟩ := r
            refine ⟨p', b', dp', s', V', ?_, ⟨?_, ?_, ?_, fun j hj => ?_, r2⟩, fun j hj => ?_, fun j h1 h2 => ?_⟩
            · rw [r1, show i + 1 + L.length = i + (x.1 :: L).length by simp only [List.length_cons]; omega]
            · rw [r3 _ (by omega)]; exact q1
            · rw [r3 _ (by omega)]; exact q2
            · rw [r3 _ (by omega)]; exact q3
            · rw [r4 _ (by omega) (by omega), r4 _ (by omega) (by omega)]; exact q4 j hj
            · rw [r3 j (by omega), q5 j hj]
            · rw [r4 j h1 (by omega), q6 j h1 h2]
theorem readAllS_ev (O : mO) (d : Nat) (X : MTL O) {W : WD} (H : MS h m W) (h8 : m 8 = nI l) (hl : l ≤ 400) (e71 : h.1[71]? = some (aB 400 B)) : MYx (ev O (d + 31) 188 0 [.ref 66, .int 0, mJ] [] h) h (mRA m) 0 0 W (txS B l) := by
  have R : RZ h (mRA m) l B := ⟨⟨m, H.1⟩, ⟨W, H.2⟩, e71, h8, hl⟩
  have p1 : m_pf h 66 8 10 (.int (m 8)) = some (h.1.set 66 (oM (upd m 10 (m 8))), h.2) := pM10 H.1 _
  have c1 : ∀ q, ((h.1.set 66 (oM q), h.2) : mH).1[66]? = some (oM q) := fun q => hget H.1
  have e0 : ev O (d + 31) 188 0 [.ref 66, .int 0, mJ] [] h = ev O (d + 31) 188 23 [.ref 66, .int 0, mJ] [] (hz h (mRA m) (nI 0) (m 11) (m 12) (nI 0) W) := by
    rw [hz_of H.2, nI_0, ← mRA_eq]
    simp only [e_188_0, e_188_1, e_188_2, e_188_5, e_188_8, e_188_9, e_188_10, e_188_13, e_188_14, e_188_15, e_188_18, e_188_19, e_188_20, e_188_24, e_188_27, e_188_28, e_188_31, e_188_32, e_188_35, e_188_38, e_188_39, e_188_40, e_188_41, e_188_43, e_188_44, e_188_45, e_188_48, e_188_51, e_188_52, e_188_53, e_188_54, e_188_57, e_188_58, e_188_61, e_188_62, e_188_65, e_188_68, e_188_69, e_188_70, e_188_71, e_188_72, e_188_73, e_188_75, e_188_77, e_188_80, e_188_83, e_188_84, e_188_85, e_188_86, e_188_87, e_188_90, e_188_91, e_188_92, e_188_95, e_188_98, Option.bind_some, Option.bind_none, m_kt, m_kn, Option.toList_some, Option.toList_none, List.nil_append, List.cons_append, List.append_nil, ltn, ite_not, ↓reduceIte, true_or, or_true, nP1, oI_s, oI_n, bI_f, bI_t, i1_0, i0_0, Bool.false_eq_true, not_true_eq_false, not_false_eq_true, gM8 H.1, p1, pM8 (c1 _), pM9 (c1 _), pM15 (c1 _), List.set_set]
  rw [e0]
  unfold txS
  have s2 := sb_le (B := B) (Nat.zero_le l)
  by_cases z : sb B l 0 = l
  · rw [if_pos z]
    refine ⟨nI (sb B l 0), nI (sb B l 0), m 12, nI 0, W, ?_, trivial, fun j hj => rfl, fun j h1 h2 => rfl⟩
    simp only [e_188_0, e_188_1, e_188_2, e_188_5, e_188_8, e_188_9, e_188_10, e_188_13, e_188_14, e_188_15, e_188_18, e_188_19, e_188_20, e_188_23, e_188_24, e_188_27, e_188_28, e_188_31, e_188_32, e_188_35, e_188_38, e_188_39, e_188_40, e_188_41, e_188_43, e_188_44, e_188_45, e_188_48, e_188_51, e_188_52, e_188_53, e_188_54, e_188_57, e_188_58, e_188_61, e_188_62, e_188_65, e_188_68, e_188_69, e_188_70, e_188_71, e_188_72, e_188_73, e_188_75, e_188_77, e_188_80, e_188_83, e_188_84, e_188_85, e_188_86, e_188_87, e_188_90, e_188_91, e_188_92, e_188_95, e_188_98, Option.bind_some, Option.bind_none, m_kt, m_kn, Option.toList_some, Option.toList_none, List.nil_append, List.cons_append, List.append_nil, ltn, ite_not, ↓reduceIte, true_or, or_true, nP1, oI_s, oI_n, bI_f, bI_t, i1_0, i0_0, Bool.false_eq_true, not_true_eq_false, not_false_eq_true, Zisc R, blanks_ev O (d + 29) R (Nat.zero_le _), gz9 R, gz10 R, z]
    rfl
  · rw [if_neg z]
    have nz : ¬ nI (sb B l 0) = nI l := fun y => z ((nI_eq (by omega) (by omega)).mp y)
    have r := readAllS_run (dp := m 12) (V := W) O d X R 12 0 (b := nI (sb B l 0)) (p := sb B l 0) (s := 0) (by omega) s2 (Nat.zero_le _)
    simp only [e_188_0, e_188_1, e_188_2, e_188_5, e_188_8, e_188_9, e_188_10, e_188_13, e_188_14, e_188_15, e_188_18, e_188_19, e_188_20, e_188_23, e_188_24, e_188_27, e_188_28, e_188_31, e_188_32, e_188_35, e_188_38, e_188_39, e_188_40, e_188_41, e_188_43, e_188_44, e_188_45, e_188_48, e_188_51, e_188_52, e_188_53, e_188_54, e_188_57, e_188_58, e_188_61, e_188_62, e_188_65, e_188_68, e_188_69, e_188_70, e_188_71, e_188_72, e_188_73, e_188_75, e_188_77, e_188_80, e_188_83, e_188_84, e_188_85, e_188_86, e_188_87, e_188_90, e_188_91, e_188_92, e_188_95, e_188_98, Option.bind_some, Option.bind_none, m_kt, m_kn, Option.toList_some, Option.toList_none, List.nil_append, List.cons_append, List.append_nil, ltn, ite_not, ↓reduceIte, true_or, or_true, nP1, oI_s, oI_n, bI_f, bI_t, i1_0, i0_0, Bool.false_eq_true, not_true_eq_false, not_false_eq_true, Zisc R, blanks_ev O (d + 29) R (Nat.zero_le _), gz9 R, gz10 R, nz]
    exact r
end ShameM
