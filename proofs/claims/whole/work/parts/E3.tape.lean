/-! The tape: its object; end -/
def oT (l a t w : Int32) : mC := .inr (5, [.ref 50, .int l, .int a, .int t, .int w])
section TapeO
variable {h : mH} {l a t w : Int32}
theorem gT0 (H : h.1[49]? = some (oT l a t w)) : m_gf h 49 5 0 = some (.ref 50) := by simp only [m_gf, H, oT, ↓reduceIte]; rfl
theorem gT1 (H : h.1[49]? = some (oT l a t w)) : m_gf h 49 5 1 = some (.int l) := by simp only [m_gf, H, oT, ↓reduceIte]; rfl
theorem pT1 (H : h.1[49]? = some (oT l a t w)) (x : Int32) : m_pf h 49 5 1 (.int x) = some (h.1.set 49 (oT x a t w), h.2) := by simp only [m_pf, H]; rfl
theorem gT2 (H : h.1[49]? = some (oT l a t w)) : m_gf h 49 5 2 = some (.int a) := by simp only [m_gf, H, oT, ↓reduceIte]; rfl
theorem pT2 (H : h.1[49]? = some (oT l a t w)) (x : Int32) : m_pf h 49 5 2 (.int x) = some (h.1.set 49 (oT l x t w), h.2) := by simp only [m_pf, H]; rfl
theorem gT3 (H : h.1[49]? = some (oT l a t w)) : m_gf h 49 5 3 = some (.int t) := by simp only [m_gf, H, oT, ↓reduceIte]; rfl
theorem pT3 (H : h.1[49]? = some (oT l a t w)) (x : Int32) : m_pf h 49 5 3 (.int x) = some (h.1.set 49 (oT l a x w), h.2) := by simp only [m_pf, H]; rfl
theorem gT4 (H : h.1[49]? = some (oT l a t w)) : m_gf h 49 5 4 = some (.int w) := by simp only [m_gf, H, oT, ↓reduceIte]; rfl
theorem pT4 (H : h.1[49]? = some (oT l a t w)) (x : Int32) : m_pf h 49 5 4 (.int x) = some (h.1.set 49 (oT l a t x), h.2) := by simp only [m_pf, H]; rfl
theorem iscT (H : h.1[49]? = some (oT l a t w)) : m_isc h 49 5 = true := by simp only [m_isc, H, oT]; rfl
theorem Gend_ev (O : mO) (d : Nat) {g : gT} (G : h.1[0]? = some (oG g)) (H : h.1[49]? = some (oT l a t w)) (n : Int32) : ev O (d) 103 0 [.ref 0, .int n] [] h = if 0 ≤ n ∧ n ≤ l then some (.inl (some (.int (1))), (h.1.set 49 (oT n a t w), h.2)) else some (.inl (some (.int (0))), h) := by
  by_cases c1 : 0 ≤ n
  · by_cases c2 : n ≤ l
    · rw [if_pos ⟨c1, c2⟩]
      simp only [e_103_0, e_103_1, e_103_4, e_103_5, e_103_6, e_103_9, e_103_12, e_103_15, e_103_16, e_103_17, e_103_18, e_103_21, e_103_22, e_103_25, e_103_26, Option.bind_some, Option.bind_none, m_kt, m_kn, Option.toList_some, Option.toList_none, List.nil_append, List.cons_append, List.append_nil, ltn, ite_not, ↓reduceIte, true_or, or_true, nP1, oI_s, oI_n, bI_f, bI_t, i1_0, i0_0, Bool.false_eq_true, not_true_eq_false, not_false_eq_true, c1, gG6 G, gT1 H, c2, pT1 H, o01]
    · rw [if_neg (fun q => c2 q.2)]
      simp only [e_103_0, e_103_1, e_103_4, e_103_5, e_103_6, e_103_9, e_103_12, e_103_15, e_103_16, e_103_17, e_103_18, e_103_21, e_103_22, e_103_25, e_103_26, Option.bind_some, Option.bind_none, m_kt, m_kn, Option.toList_some, Option.toList_none, List.nil_append, List.cons_append, List.append_nil, ltn, ite_not, ↓reduceIte, true_or, or_true, nP1, oI_s, oI_n, bI_f, bI_t, i1_0, i0_0, Bool.false_eq_true, not_true_eq_false, not_false_eq_true, c1, gG6 G, gT1 H, c2, z01]
  · rw [if_neg (fun q => c1 q.1)]
    simp only [e_103_0, e_103_1, e_103_4, e_103_5, e_103_6, e_103_9, e_103_12, e_103_15, e_103_16, e_103_17, e_103_18, e_103_21, e_103_22, e_103_25, e_103_26, Option.bind_some, Option.bind_none, m_kt, m_kn, Option.toList_some, Option.toList_none, List.nil_append, List.cons_append, List.append_nil, ltn, ite_not, ↓reduceIte, true_or, or_true, nP1, oI_s, oI_n, bI_f, bI_t, i1_0, i0_0, Bool.false_eq_true, not_true_eq_false, not_false_eq_true, c1, z01]
theorem Mend_ev (O : mO) (d : Nat) {m : Nat → Int32} {W : WD} (H : MS h m W) (n : Int32) : ev O (d) 166 0 [.ref 66, .int n] [] h = if 0 ≤ n ∧ n ≤ m 8 then some (.inl (some (.int (1))), (h.1.set 66 (oM (upd (upd m 0 0) 8 n)), h.2)) else some (.inl (some (.int (0))), tH h m 0) := by
  have H0 := H.t 0
  have m8 : upd m 0 0 8 = m 8 := pk_un (by omega)
  have pp : m_pf (tH h m 0) 66 8 8 (.int n) = some (h.1.set 66 (oM (upd (upd m 0 0) 8 n)), h.2) := by
    rw [pM8 H0.1]; unfold tH; rw [List.set_set]
  by_cases c1 : 0 ≤ n
  · by_cases c2 : n ≤ m 8
    · rw [if_pos ⟨c1, c2⟩]
      simp only [e_166_0, e_166_1, e_166_2, e_166_5, e_166_6, e_166_9, e_166_10, e_166_11, e_166_14, e_166_17, e_166_18, e_166_19, e_166_20, e_166_21, e_166_24, e_166_25, Option.bind_some, Option.bind_none, m_kt, m_kn, Option.toList_some, Option.toList_none, List.nil_append, List.cons_append, List.append_nil, ltn, ite_not, ↓reduceIte, true_or, or_true, nP1, oI_s, oI_n, bI_f, bI_t, i1_0, i0_0, Bool.false_eq_true, not_true_eq_false, not_false_eq_true, pMt H, c1, gM8 H0.1, m8, c2, pp, o01]
    · rw [if_neg (fun q => c2 q.2)]
      simp only [e_166_0, e_166_1, e_166_2, e_166_5, e_166_6, e_166_9, e_166_10, e_166_11, e_166_14, e_166_17, e_166_18, e_166_19, e_166_20, e_166_21, e_166_24, e_166_25, Option.bind_some, Option.bind_none, m_kt, m_kn, Option.toList_some, Option.toList_none, List.nil_append, List.cons_append, List.append_nil, ltn, ite_not, ↓reduceIte, true_or, or_true, nP1, oI_s, oI_n, bI_f, bI_t, i1_0, i0_0, Bool.false_eq_true, not_true_eq_false, not_false_eq_true, pMt H, c1, gM8 H0.1, m8, c2, z01]
  · rw [if_neg (fun q => c1 q.1)]
    simp only [e_166_0, e_166_1, e_166_2, e_166_5, e_166_6, e_166_9, e_166_10, e_166_11, e_166_14, e_166_17, e_166_18, e_166_19, e_166_20, e_166_21, e_166_24, e_166_25, Option.bind_some, Option.bind_none, m_kt, m_kn, Option.toList_some, Option.toList_none, List.nil_append, List.cons_append, List.append_nil, ltn, ite_not, ↓reduceIte, true_or, or_true, nP1, oI_s, oI_n, bI_f, bI_t, i1_0, i0_0, Bool.false_eq_true, not_true_eq_false, not_false_eq_true, pMt H, c1, z01]
end TapeO
