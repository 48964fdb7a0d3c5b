/-! The class reads a condition of the law -/
def wrC : (Nat → Int32) → Nat → CO → (Nat → Int32)
  | D, _, [] => D
  | D, u, (k, x) :: r => wrC (upd D u (cc k x)) (u + 1) r
theorem wrC_app : ∀ (a b : CO) (D : Nat → Int32) (u : Nat), wrC D u (a ++ b) = wrC (wrC D u a) (u + a.length) b
  | [], b, D, u => rfl
  | (k, x) :: r, b, D, u => by
    simp only [List.cons_append, wrC, List.length_cons]
    rw [wrC_app r b, Nat.add_assoc, Nat.add_comm 1]
def hLw (h : mH) (a l p : Nat) (t w n : Int32) (u : Nat) (D : Nat → Int32) : mH := (((h.1.set 49 (oT (nI l) (nI p) t w)).set a (oL a n (nI u))).set (a + 4) (aI 400 D), h.2)
def LZ (h : mH) (a l : Nat) (B : Nat → Int32) : Prop := (∃ c, h.1[49]? = some c) ∧ (∃ c, h.1[a]? = some c) ∧ (∃ c, h.1[a + 4]? = some c) ∧ h.1[50]? = some (aB 400 B) ∧ l ≤ 400 ∧ (a = 28 ∨ a = 35)
def CR (r : Option mR) (h : mH) (a l : Nat) (n : Int32) (u : Nat) (D : Nat → Int32) (s : RS) : Prop := match s with
  | .inl f => ∃ p' t' u' D', r = some (.inl (some (.int (0))), hLw h a l p' t' (nI f) n u' D')
  | .inr x => ∃ t', r = some (.inl (some (.int (1))), hLw h a l x.1 t' (-1) n (u + x.2.length) (wrC D u x.2))
def LTX (O : mO) : Prop := TX O 22 w_hide ∧ TX O 24 w_show ∧ TX O 26 w_fine ∧ TX O 28 w_if ∧ TX O 30 w_not ∧ (∀ k, k < 7 → TX O (32 + 2 * k) (fw k)) ∧ TX O 46 w_and ∧ TX O 48 w_or
section LawR
variable {h : mH} {a l p u : Nat} {t w n : Int32} {B D : Nat → Int32}
theorem CR_pre {r : Option mR} {c : CO} {s : RS} (L : CR r h a l n (u + c.length) (wrC D u c) s) : CR r h a l n u D (pre c s) := by
  unfold CR at *
  cases s with
  | inl e => exact L
  | inr x =>
    obtain ⟨t', e⟩ := L
    refine ⟨t', ?_⟩
    simp only
    rw [e, wrC_app, List.length_append, Nat.add_assoc]
theorem L49 (Z : LZ h a l B) : (hLw h a l p t w n u D).1[49]? = some (oT (nI l) (nI p) t w) := by
  obtain ⟨⟨c, e⟩, -, -, -, -, ha⟩ := Z
  exact ((hne (by omega)).trans (hne (by omega))).trans (hget e)
theorem L50 (Z : LZ h a l B) : (hLw h a l p t w n u D).1[50]? = some (aB 400 B) := by
  obtain ⟨-, -, -, e, -, ha⟩ := Z
  exact (((hne (by omega)).trans (hne (by omega))).trans (hne (by omega))).trans e
theorem La (Z : LZ h a l B) : (hLw h a l p t w n u D).1[a]? = some (oL a n (nI u)) := by
  obtain ⟨-, ⟨c, e⟩, -, -, -, ha⟩ := Z
  exact (hne (by omega)).trans (hget (c := c) ((hne (by omega)).trans e))
theorem La4 (Z : LZ h a l B) : (hLw h a l p t w n u D).1[a + 4]? = some (aI 400 D) := by
  obtain ⟨-, -, ⟨c, e⟩, -, -, ha⟩ := Z
  exact hget (c := c) (((hne (by omega)).trans (hne (by omega))).trans e)
theorem hp_hLw (Z : LZ h a l B) (p' : Nat) (t' w' : Int32) : hp (hLw h a l p t w n u D) l p' t' w' = hLw h a l p' t' w' n u D := by
  have ha := Z.2.2.2.2.2
  unfold hp hLw
  simp only
  rw [List.set_comm _ _ (show a + 4 ≠ 49 by omega), List.set_comm _ _ (show a ≠ 49 by omega), List.set_set]
theorem LtW (O : mO) (d : Nat) (Z : LZ h a l B) (hp' : p ≤ l) {k : Nat} {s : List Nat} (X : TX O k s) (L : low s) : ev O (d + 5) 82 0 [.ref 49, .retAddr k, mJ, mJ] [] (hLw h a l p t w n u D) = if wd B l (sb B l p) s = true then some (.inl (some (.int (1))), hLw h a l (sb B l p + s.length) (nI (sb B l p)) w n u D) else some (.inl (some (.int (0))), hLw h a l (sb B l p) t w n u D) := by
  rw [takeWord_ev O d (L49 Z) (L50 Z) Z.2.2.2.2.1 hp' X L, hp_hLw Z, hp_hLw Z]
theorem LtS (O : mO) (d : Nat) (Z : LZ h a l B) (hp' : p ≤ l) (c : Int32) : ev O (d + 1) 81 0 [.ref 49, .int c] [] (hLw h a l p t w n u D) = if sg B l p c = true then some (.inl (some (.int (1))), hLw h a l (sb B l p + 1) (nI (sb B l p)) w n u D) else some (.inl (some (.int (0))), hLw h a l (sb B l p) t w n u D) := by
  rw [takeSign_ev O d (L49 Z) (L50 Z) Z.2.2.2.2.1 hp' c, hp_hLw Z, hp_hLw Z]
theorem LtN (O : mO) (d : Nat) (Z : LZ h a l B) (hp' : p ≤ l) (lo hi : Int32) : ev O (d + 1) 83 0 [.ref 49, .int lo, .int hi, mJ, mJ] [] (hLw h a l p t w n u D) = (num B l p lo hi).elim (some (.inl (some (.int (-1))), hLw h a l (sb B l p) t (nI (sb B l p)) n u D)) (fun x => some (.inl (some (.int (x.1))), hLw h a l x.2 t w n u D)) := by
  rw [takeNumber_ev O d (L49 Z) (L50 Z) Z.2.2.2.2.1 hp' lo hi]
  simp only [hp_hLw Z]
theorem LrN (O : mO) (d : Nat) (Z : LZ h a l B) (hp' : p ≤ l) : ev O (d + 1) 84 0 [.ref 49] [] (hLw h a l p t w n u D) = some (.inl (some (.int (0))), hLw h a l (sb B l p) t (nI (sb B l p)) n u D) := by
  rw [refuseNext_ev O d (L49 Z) (L50 Z) Z.2.2.2.2.1 hp', hp_hLw Z]
theorem LrT (O : mO) (d : Nat) (Z : LZ h a l B) : ev O (d) 85 0 [.ref 49] [] (hLw h a l p t w n u D) = some (.inl (some (.int (0))), hLw h a l p t t n u D) := by
  rw [refuseTaken_ev O d (L49 Z), hp_hLw Z]
theorem LtI (Z : LZ h a l B) : m_isc (hLw h a l p t w n u D) 49 5 = true := iscT (L49 Z)
theorem LaI (Z : LZ h a l B) : m_isc (hLw h a l p t w n u D) a 2 = true := L_isc (La Z)
theorem keep_ev (O : mO) (d : Nat) (Z : LZ h a l B) (hu : u < 400) (c : Int32) : ev O (d) 57 0 [.ref a, .int c] [] (hLw h a l p t w n u D) = some (.inl (some (.int (1))), hLw h a l p t w n (u + 1) (upd D u c)) := by
  have ha := Z.2.2.2.2.2
  have c1 : ¬ nI 400 ≤ nI u := nI_ge hu (by omega)
  have s1 : m_si (hLw h a l p t w n u D) (a + 4) (nI u) c = some (hLw h a l p t w n u (upd D u c)) := by
    rw [si_n (La4 Z) hu (by decide)]
    unfold hLw
    rw [List.set_set]
  have p1 : ∀ D', m_pf (hLw h a l p t w n u D') a 2 5 (.int (nI (u + 1))) = some (hLw h a l p t w n (u + 1) D') := fun D' => by
    rw [pL5 (La Z)]
    unfold hLw
    simp only
    rw [List.set_comm _ _ (show a + 4 ≠ a by omega), List.set_set]
  simp only [e_57_0, e_57_1, e_57_4, e_57_5, e_57_8, e_57_9, e_57_12, e_57_13, e_57_16, e_57_17, e_57_20, e_57_21, e_57_22, e_57_23, e_57_24, e_57_27, e_57_28, e_57_29, e_57_32, e_57_33, Option.bind_some, Option.bind_none, m_kt, m_kn, Option.toList_some, Option.toList_none, List.nil_append, List.cons_append, List.append_nil, ltn, ite_not, ↓reduceIte, true_or, or_true, nP1, oI_s, oI_n, bI_f, bI_t, i1_0, i0_0, Bool.false_eq_true, not_true_eq_false, not_false_eq_true, gL5 (La Z), gL4 (La Z), ln_i (La4 Z), c1, s1, cat_ref, p1, o01]
theorem factName_ev (O : mO) (d : Nat) (h : mH) {k : Nat} (hk : k < 7) : ev O (d) 56 0 [.int (nI k)] [] h = some (.inl (some (.retAddr (32 + 2 * k))), h) := by
  have hk' : k = 0 ∨ k = 1 ∨ k = 2 ∨ k = 3 ∨ k = 4 ∨ k = 5 ∨ k = 6 := by omega
  rcases hk' with rfl | rfl | rfl | rfl | rfl | rfl | rfl
  · simp only [e_56_0, e_56_1, e_56_40, e_56_42, e_56_43, e_56_45, e_56_46, e_56_48, e_56_49, e_56_51, e_56_52, e_56_54, e_56_55, e_56_57, e_56_58, e_56_60, Option.bind_some, Option.bind_none, m_kt, m_kn, Option.toList_some, Option.toList_none, List.nil_append, List.cons_append, List.append_nil, ltn, ite_not, ↓reduceIte, true_or, or_true, nP1, oI_s, oI_n, bI_f, bI_t, i1_0, i0_0, Bool.false_eq_true, not_true_eq_false, not_false_eq_true, tl_0, tn_0, (show List.getD [40, 43, 46, 49, 52, 55] 0 58 = 40 from rfl), (show List.getD [40, 43, 46, 49, 52, 55] 1 58 = 43 from rfl), (show List.getD [40, 43, 46, 49, 52, 55] 2 58 = 46 from rfl), (show List.getD [40, 43, 46, 49, 52, 55] 3 58 = 49 from rfl), (show List.getD [40, 43, 46, 49, 52, 55] 4 58 = 52 from rfl), (show List.getD [40, 43, 46, 49, 52, 55] 5 58 = 55 from rfl)]
  · simp only [e_56_0, e_56_1, e_56_40, e_56_42, e_56_43, e_56_45, e_56_46, e_56_48, e_56_49, e_56_51, e_56_52, e_56_54, e_56_55, e_56_57, e_56_58, e_56_60, Option.bind_some, Option.bind_none, m_kt, m_kn, Option.toList_some, Option.toList_none, List.nil_append, List.cons_append, List.append_nil, ltn, ite_not, ↓reduceIte, true_or, or_true, nP1, oI_s, oI_n, bI_f, bI_t, i1_0, i0_0, Bool.false_eq_true, not_true_eq_false, not_false_eq_true, tl_1, tn_1, (show List.getD [40, 43, 46, 49, 52, 55] 0 58 = 40 from rfl), (show List.getD [40, 43, 46, 49, 52, 55] 1 58 = 43 from rfl), (show List.getD [40, 43, 46, 49, 52, 55] 2 58 = 46 from rfl), (show List.getD [40, 43, 46, 49, 52, 55] 3 58 = 49 from rfl), (show List.getD [40, 43, 46, 49, 52, 55] 4 58 = 52 from rfl), (show List.getD [40, 43, 46, 49, 52, 55] 5 58 = 55 from rfl)]
  · simp only [e_56_0, e_56_1, e_56_40, e_56_42, e_56_43, e_56_45, e_56_46, e_56_48, e_56_49, e_56_51, e_56_52, e_56_54, e_56_55, e_56_57, e_56_58, e_56_60, Option.bind_some, Option.bind_none, m_kt, m_kn, Option.toList_some, Option.toList_none, List.nil_append, List.cons_append, List.append_nil, ltn, ite_not, ↓reduceIte, true_or, or_true, nP1, oI_s, oI_n, bI_f, bI_t, i1_0, i0_0, Bool.false_eq_true, not_true_eq_false, not_false_eq_true, tl_2, tn_2, (show List.getD [40, 43, 46, 49, 52, 55] 0 58 = 40 from rfl), (show List.getD [40, 43, 46, 49, 52, 55] 1 58 = 43 from rfl), (show List.getD [40, 43, 46, 49, 52, 55] 2 58 = 46 from rfl), (show List.getD [40, 43, 46, 49, 52, 55] 3 58 = 49 from rfl), (show List.getD [40, 43, 46, 49, 52, 55] 4 58 = 52 from rfl), (show List.getD [40, 43, 46, 49, 52, 55] 5 58 = 55 from rfl)]
  · simp only [e_56_0, e_56_1, e_56_40, e_56_42, e_56_43, e_56_45, e_56_46, e_56_48, e_56_49, e_56_51, e_56_52, e_56_54, e_56_55, e_56_57, e_56_58, e_56_60, Option.bind_some, Option.bind_none, m_kt, m_kn, Option.toList_some, Option.toList_none, List.nil_append, List.cons_append, List.append_nil, ltn, ite_not, ↓reduceIte, true_or, or_true, nP1, oI_s, oI_n, bI_f, bI_t, i1_0, i0_0, Bool.false_eq_true, not_true_eq_false, not_false_eq_true, tl_3, tn_3, (show List.getD [40, 43, 46, 49, 52, 55] 0 58 = 40 from rfl), (show List.getD [40, 43, 46, 49, 52, 55] 1 58 = 43 from rfl), (show List.getD [40, 43, 46, 49, 52, 55] 2 58 = 46 from rfl), (show List.getD [40, 43, 46, 49, 52, 55] 3 58 = 49 from rfl), (show List.getD [40, 43, 46, 49, 52, 55] 4 58 = 52 from rfl), (show List.getD [40, 43, 46, 49, 52, 55] 5 58 = 55 from rfl)]
  · simp only [e_56_0, e_56_1, e_56_40, e_56_42, e_56_43, e_56_45, e_56_46, e_56_48, e_56_49, e_56_51, e_56_52, e_56_54, e_56_55, e_56_57, e_56_58, e_56_60, Option.bind_some, Option.bind_none, m_kt, m_kn, Option.toList_some, Option.toList_none, List.nil_append, List.cons_append, List.append_nil, ltn, ite_not, ↓reduceIte, true_or, or_true, nP1, oI_s, oI_n, bI_f, bI_t, i1_0, i0_0, Bool.false_eq_true, not_true_eq_false, not_false_eq_true, tl_4, tn_4, (show List.getD [40, 43, 46, 49, 52, 55] 0 58 = 40 from rfl), (show List.getD [40, 43, 46, 49, 52, 55] 1 58 = 43 from rfl), (show List.getD [40, 43, 46, 49, 52, 55] 2 58 = 46 from rfl), (show List.getD [40, 43, 46, 49, 52, 55] 3 58 = 49 from rfl), (show List.getD [40, 43, 46, 49, 52, 55] 4 58 = 52 from rfl), (show List.getD [40, 43, 46, 49, 52, 55] 5 58 = 55 from rfl)]
  · simp only [e_56_0, e_56_1, e_56_40, e_56_42, e_56_43, e_56_45, e_56_46, e_56_48, e_56_49, e_56_51, e_56_52, e_56_54, e_56_55, e_56_57, e_56_58, e_56_60, Option.bind_some, Option.bind_none, m_kt, m_kn, Option.toList_some, Option.toList_none, List.nil_append, List.cons_append, List.append_nil, ltn, ite_not, ↓reduceIte, true_or, or_true, nP1, oI_s, oI_n, bI_f, bI_t, i1_0, i0_0, Bool.false_eq_true, not_true_eq_false, not_false_eq_true, tl_5, tn_5, (show List.getD [40, 43, 46, 49, 52, 55] 0 58 = 40 from rfl), (show List.getD [40, 43, 46, 49, 52, 55] 1 58 = 43 from rfl), (show List.getD [40, 43, 46, 49, 52, 55] 2 58 = 46 from rfl), (show List.getD [40, 43, 46, 49, 52, 55] 3 58 = 49 from rfl), (show List.getD [40, 43, 46, 49, 52, 55] 4 58 = 52 from rfl), (show List.getD [40, 43, 46, 49, 52, 55] 5 58 = 55 from rfl)]
  · simp only [e_56_0, e_56_1, e_56_40, e_56_42, e_56_43, e_56_45, e_56_46, e_56_48, e_56_49, e_56_51, e_56_52, e_56_54, e_56_55, e_56_57, e_56_58, e_56_60, Option.bind_some, Option.bind_none, m_kt, m_kn, Option.toList_some, Option.toList_none, List.nil_append, List.cons_append, List.append_nil, ltn, ite_not, ↓reduceIte, true_or, or_true, nP1, oI_s, oI_n, bI_f, bI_t, i1_0, i0_0, Bool.false_eq_true, not_true_eq_false, not_false_eq_true, tl_6, tn_6, (show List.getD [40, 43, 46, 49, 52, 55] 6 58 = 58 from rfl)]
/-- one part: its code -/
theorem part_ev (O : mO) (d : Nat) (X : LTX O) (Z : LZ h a l B) (hp' : p ≤ l) (i : Int32) : (prt B l p).elim (fun f => ∃ p' t' v, ev O (d + 6) 55 14 [.ref a, .ref 49, .int i, .int (-1), .int 0] [] (hLw h a l p t (-1) n u D) = ev O (d + 6) 55 65 [.ref a, .ref 49, .int i, .int (-1), v] [] (hLw h a l p' t' (nI f) n u D)) (fun x => ∃ t' v k y, x.2 = [(k, y)] ∧ ¬ cc k y = -1 ∧ ev O (d + 6) 55 14 [.ref a, .ref 49, .int i, .int (-1), .int 0] [] (hLw h a l p t (-1) n u D) = ev O (d + 6) 55 65 [.ref a, .ref 49, .int i, .int (cc k y), v] [] (hLw h a l x.1 t' (-1) n u D)) := by
  obtain ⟨-, -, -, -, -, xf, -, -⟩ := X
  have sp := sb_le (B := B) hp'
  have e := fd_runJ (ν := Nat) (F := fun k v => ev O (d + 6) 55 14 [.ref a, .ref 49, .int i, .int (-1), .int (nI k)] [] (hLw h a l v t (-1) n u D)) (c := fun k => wd B l (sb B l p) (fw k)) (n := 7) (E := fun k r => r = ev O (d + 6) 55 51 [.ref a, .ref 49, .int i, .int (nI (1000 + k)), .int (nI (k + 1))] [] (hLw h a l (sb B l p + (fw k).length) (nI (sb B l p)) (-1) n u D)) (fun _ v => v ≤ l ∧ sb B l v = sb B l p) (fun k v hk J => by
    have c1 : ¬ (7 : Int32) ≤ nI k := nI_ge (b := 7) hk (by omega)
    have ne : ¬ nI (1000 + k) = -1 := by rw [nm1 (by omega)]; exact id
    have ad : (1000 : Int32) + nI k = nI (1000 + k) := nA 1000 k
    refine ⟨fun q => ?_, fun q => ⟨sb B l p, ⟨sp, sb_sb _ _ _⟩, ?_⟩⟩
    · rw [e_55_14]
      simp only [e_55_0, e_55_1, e_55_3, e_55_6, e_55_9, e_55_10, e_55_11, e_55_12, e_55_16, e_55_18, e_55_21, e_55_22, e_55_23, e_55_26, e_55_27, e_55_29, e_55_32, e_55_35, e_55_38, e_55_41, e_55_43, e_55_44, e_55_45, e_55_48, e_55_52, e_55_53, e_55_56, e_55_57, e_55_58, e_55_61, e_55_64, e_55_65, e_55_66, e_55_67, e_55_70, e_55_71, e_55_72, e_55_73, e_55_74, e_55_77, e_55_78, e_55_79, e_55_82, e_55_83, e_55_86, e_55_89, e_55_90, e_55_91, e_55_93, e_55_96, e_55_99, e_55_100, e_55_101, e_55_104, e_55_107, e_55_108, Option.bind_some, Option.bind_none, m_kt, m_kn, Option.toList_some, Option.toList_none, List.nil_append, List.cons_append, List.append_nil, ltn, ite_not, ↓reduceIte, true_or, or_true, nP1, oI_s, oI_n, bI_f, bI_t, i1_0, i0_0, Bool.false_eq_true, not_true_eq_false, not_false_eq_true, c1, factName_ev O (d + 5) _ hk, LtI Z, LtW O d Z J.1 (xf k hk) (l_fw k), J.2, q, ad]
      rw [e_55_14]
      by_cases z : (7 : Int32) ≤ nI (k + 1) <;> simp only [e_55_0, e_55_1, e_55_3, e_55_6, e_55_9, e_55_10, e_55_11, e_55_12, e_55_16, e_55_18, e_55_21, e_55_22, e_55_23, e_55_26, e_55_27, e_55_29, e_55_32, e_55_35, e_55_38, e_55_41, e_55_43, e_55_44, e_55_45, e_55_48, e_55_52, e_55_53, e_55_56, e_55_57, e_55_58, e_55_61, e_55_64, e_55_65, e_55_66, e_55_67, e_55_70, e_55_71, e_55_72, e_55_73, e_55_74, e_55_77, e_55_78, e_55_79, e_55_82, e_55_83, e_55_86, e_55_89, e_55_90, e_55_91, e_55_93, e_55_96, e_55_99, e_55_100, e_55_101, e_55_104, e_55_107, e_55_108, Option.bind_some, Option.bind_none, m_kt, m_kn, Option.toList_some, Option.toList_none, List.nil_append, List.cons_append, List.append_nil, ltn, ite_not, ↓reduceIte, true_or, or_true, nP1, oI_s, oI_n, bI_f, bI_t, i1_0, i0_0, Bool.false_eq_true, not_true_eq_false, not_false_eq_true, z, ne]
    · rw [e_55_14]
      simp only [e_55_0, e_55_1, e_55_3, e_55_6, e_55_9, e_55_10, e_55_11, e_55_12, e_55_16, e_55_18, e_55_21, e_55_22, e_55_23, e_55_26, e_55_27, e_55_29, e_55_32, e_55_35, e_55_38, e_55_41, e_55_43, e_55_44, e_55_45, e_55_48, e_55_52, e_55_53, e_55_56, e_55_57, e_55_58, e_55_61, e_55_64, e_55_65, e_55_66, e_55_67, e_55_70, e_55_71, e_55_72, e_55_73, e_55_74, e_55_77, e_55_78, e_55_79, e_55_82, e_55_83, e_55_86, e_55_89, e_55_90, e_55_91, e_55_93, e_55_96, e_55_99, e_55_100, e_55_101, e_55_104, e_55_107, e_55_108, Option.bind_some, Option.bind_none, m_kt, m_kn, Option.toList_some, Option.toList_none, List.nil_append, List.cons_append, List.append_nil, ltn, ite_not, ↓reduceIte, true_or, or_true, nP1, oI_s, oI_n, bI_f, bI_t, i1_0, i0_0, Bool.false_eq_true, not_true_eq_false, not_false_eq_true, c1, factName_ev O (d + 5) _ hk, LtI Z, LtW O d Z J.1 (xf k hk) (l_fw k), J.2, q]) p ⟨hp', rfl⟩
  simp only [nI_0] at e
  unfold prt fcS
  rcases e with ⟨k, ek, e⟩ | ⟨en, v, ⟨v1, v2⟩, e⟩
  · rw [ek]
    have k7 := (fd_some ek).1
    have c1 : cc k 0 = nI (1000 + k) := if_pos k7
    have ne : ¬ nI (1000 + k) = -1 := by rw [nm1 (by omega)]; exact id
    refine ⟨nI (sb B l p), .int (nI (k + 1)), k, 0, rfl, by rw [c1]; exact ne, ?_⟩
    rw [e, c1]
    simp only [e_55_0, e_55_1, e_55_3, e_55_6, e_55_9, e_55_10, e_55_11, e_55_12, e_55_16, e_55_18, e_55_21, e_55_22, e_55_23, e_55_26, e_55_27, e_55_29, e_55_32, e_55_35, e_55_38, e_55_41, e_55_43, e_55_44, e_55_45, e_55_48, e_55_51, e_55_52, e_55_53, e_55_56, e_55_57, e_55_58, e_55_61, e_55_64, e_55_66, e_55_67, e_55_70, e_55_71, e_55_72, e_55_73, e_55_74, e_55_77, e_55_78, e_55_79, e_55_82, e_55_83, e_55_86, e_55_89, e_55_90, e_55_91, e_55_93, e_55_96, e_55_99, e_55_100, e_55_101, e_55_104, e_55_107, e_55_108, Option.bind_some, Option.bind_none, m_kt, m_kn, Option.toList_some, Option.toList_none, List.nil_append, List.cons_append, List.append_nil, ltn, ite_not, ↓reduceIte, true_or, or_true, nP1, oI_s, oI_n, bI_f, bI_t, i1_0, i0_0, Bool.false_eq_true, not_true_eq_false, not_false_eq_true, ne]
  · rw [en]
    simp only
    have n2 : num B l v 0 999 = num B l p 0 999 := by unfold num; rw [v2]
    unfold nmS
    cases q : num B l p 0 999 with
    | none =>
      refine ⟨sb B l p, t, .int (nI 7), ?_⟩
      rw [e, e_55_14]
      simp only [e_55_0, e_55_1, e_55_3, e_55_6, e_55_9, e_55_10, e_55_11, e_55_12, e_55_16, e_55_18, e_55_21, e_55_22, e_55_23, e_55_26, e_55_27, e_55_29, e_55_32, e_55_35, e_55_38, e_55_41, e_55_43, e_55_44, e_55_45, e_55_48, e_55_51, e_55_52, e_55_53, e_55_56, e_55_57, e_55_58, e_55_61, e_55_64, e_55_66, e_55_67, e_55_70, e_55_71, e_55_72, e_55_73, e_55_74, e_55_77, e_55_78, e_55_79, e_55_82, e_55_83, e_55_86, e_55_89, e_55_90, e_55_91, e_55_93, e_55_96, e_55_99, e_55_100, e_55_101, e_55_104, e_55_107, e_55_108, Option.bind_some, Option.bind_none, m_kt, m_kn, Option.toList_some, Option.toList_none, List.nil_append, List.cons_append, List.append_nil, ltn, ite_not, ↓reduceIte, true_or, or_true, nP1, oI_s, oI_n, bI_f, bI_t, i1_0, i0_0, Bool.false_eq_true, not_true_eq_false, not_false_eq_true, (show ((7 : Int32) ≤ nI 7) = True by decide), LtI Z, LtN O (d + 4) Z v1, n2, q, v2, Option.elim_none]
    | some x =>
      obtain ⟨x1, x2, x3⟩ := nm_num q (by decide)
      refine ⟨t, .int (nI 7), 7, x.1, rfl, ?_, ?_⟩
      · show ¬ x.1 = -1
        rw [x1]; exact id
      · rw [e, e_55_14]
        simp only [e_55_0, e_55_1, e_55_3, e_55_6, e_55_9, e_55_10, e_55_11, e_55_12, e_55_16, e_55_18, e_55_21, e_55_22, e_55_23, e_55_26, e_55_27, e_55_29, e_55_32, e_55_35, e_55_38, e_55_41, e_55_43, e_55_44, e_55_45, e_55_48, e_55_51, e_55_52, e_55_53, e_55_56, e_55_57, e_55_58, e_55_61, e_55_64, e_55_66, e_55_67, e_55_70, e_55_71, e_55_72, e_55_73, e_55_74, e_55_77, e_55_78, e_55_79, e_55_82, e_55_83, e_55_86, e_55_89, e_55_90, e_55_91, e_55_93, e_55_96, e_55_99, e_55_100, e_55_101, e_55_104, e_55_107, e_55_108, Option.bind_some, Option.bind_none, m_kt, m_kn, Option.toList_some, Option.toList_none, List.nil_append, List.cons_append, List.append_nil, ltn, ite_not, ↓reduceIte, true_or, or_true, nP1, oI_s, oI_n, bI_f, bI_t, i1_0, i0_0, Bool.false_eq_true, not_true_eq_false, not_false_eq_true, (show ((7 : Int32) ≤ nI 7) = True by decide), LtI Z, LtN O (d + 4) Z v1, n2, q, Option.elim_some]
        rfl
theorem sum_run (O : mO) (d : Nat) (X : LTX O) (Z : LZ h a l B) : ∀ (f i : Nat) {p u : Nat} {D : Nat → Int32} {t : Int32} (v3 v4 : Value), l < f + p → p ≤ l → u + 4 + (if i = 0 then 0 else 1) ≤ p → i + 4 ≤ p → CR (ev O (d + 6) 55 2 [.ref a, .ref 49, .int (nI i), v3, v4] [] (hLw h a l p t (-1) n u D)) h a l n u D (sbd (prt B l p) fun x => pre (x.2 ++ (if i = 0 then [] else [(8, 0)])) (lpP B l (tPl B l) (prt B l) 8 x.1)) := by
  have hl := Z.2.2.2.2.1
  intro f
  induction f with
  | zero => intro i p u D t v3 v4 h1 h2; omega
  | succ f ih =>
    intro i p u D t v3 v4 h1 h2 h3 h4
    have c1 : ¬ (400 : Int32) ≤ nI i := nI_ge (b := 400) (by omega) (by omega)
    have e0 : ev O (d + 6) 55 2 [.ref a, .ref 49, .int (nI i), v3, v4] [] (hLw h a l p t (-1) n u D) = ev O (d + 6) 55 14 [.ref a, .ref 49, .int (nI i), .int (-1), .int 0] [] (hLw h a l p t (-1) n u D) := by
      rw [e_55_2]
      simp only [e_55_0, e_55_1, e_55_3, e_55_6, e_55_9, e_55_10, e_55_11, e_55_12, e_55_16, e_55_18, e_55_21, e_55_22, e_55_23, e_55_26, e_55_27, e_55_29, e_55_32, e_55_35, e_55_38, e_55_41, e_55_43, e_55_44, e_55_45, e_55_48, e_55_51, e_55_52, e_55_53, e_55_56, e_55_57, e_55_58, e_55_61, e_55_64, e_55_65, e_55_66, e_55_67, e_55_70, e_55_71, e_55_72, e_55_73, e_55_74, e_55_77, e_55_78, e_55_79, e_55_82, e_55_83, e_55_86, e_55_89, e_55_90, e_55_91, e_55_93, e_55_96, e_55_99, e_55_100, e_55_101, e_55_104, e_55_107, e_55_108, Option.bind_some, Option.bind_none, m_kt, m_kn, Option.toList_some, Option.toList_none, List.nil_append, List.cons_append, List.append_nil, ltn, ite_not, ↓reduceIte, true_or, or_true, nP1, oI_s, oI_n, bI_f, bI_t, i1_0, i0_0, Bool.false_eq_true, not_true_eq_false, not_false_eq_true, c1]
    have pe := part_ev (t := t) (n := n) (u := u) (D := D) O d X Z h2 (nI i)
    cases ep : prt B l p with
    | inl e =>
      rw [ep] at pe
      obtain ⟨p', t', v, pe⟩ := pe
      refine ⟨p', t', u, D, ?_⟩
      rw [e0, pe]
      simp only [e_55_0, e_55_1, e_55_3, e_55_6, e_55_9, e_55_10, e_55_11, e_55_12, e_55_16, e_55_18, e_55_21, e_55_22, e_55_23, e_55_26, e_55_27, e_55_29, e_55_32, e_55_35, e_55_38, e_55_41, e_55_43, e_55_44, e_55_45, e_55_48, e_55_51, e_55_52, e_55_53, e_55_56, e_55_57, e_55_58, e_55_61, e_55_64, e_55_65, e_55_66, e_55_67, e_55_70, e_55_71, e_55_72, e_55_73, e_55_74, e_55_77, e_55_78, e_55_79, e_55_82, e_55_83, e_55_86, e_55_89, e_55_90, e_55_91, e_55_93, e_55_96, e_55_99, e_55_100, e_55_101, e_55_104, e_55_107, e_55_108, Option.bind_some, Option.bind_none, m_kt, m_kn, Option.toList_some, Option.toList_none, List.nil_append, List.cons_append, List.append_nil, ltn, ite_not, ↓reduceIte, true_or, or_true, nP1, oI_s, oI_n, bI_f, bI_t, i1_0, i0_0, Bool.false_eq_true, not_true_eq_false, not_false_eq_true, z01]
    | inr x =>
      rw [ep] at pe
      obtain ⟨t', v, k, y, xe, ne, pe⟩ := pe
      obtain ⟨x1, x2, x3, -⟩ := prt_ok _ _ h2 ep
      have sx := sb_le (B := B) x2
      have sy := sb_ge B l x.1
      simp only [sbd_r]
      have hc0 : i = 0 → x.2 ++ (if i = 0 then [] else [(8, 0)]) = [(k, y)] := fun z => by rw [if_pos z, xe]; rfl
      have hc1 : ¬ i = 0 → x.2 ++ (if i = 0 then [] else [(8, 0)]) = [(k, y), (8, 0)] := fun z => by rw [if_neg z, xe]; rfl
      generalize x.2 ++ (if i = 0 then [] else [(8, 0)]) = c0 at *
      refine CR_pre ?_
      have es : ∀ (u' : Nat) (D' : Nat → Int32), u' + 4 ≤ x.1 → CR (ev O (d + 6) 55 90 [.ref a, .ref 49, .int (nI i), .int (cc k y), v] [] (hLw h a l x.1 t' (-1) n u' D')) h a l n u' D' (lpP B l (tPl B l) (prt B l) 8 x.1) := by
        intro u' D' hu
        rw [lpP_eq tPl_g prt_ok.av x2]
        cases z : sg B l x.1 43
        · have tn : tPl B l x.1 = none := by unfold tPl; rw [z]; rfl
          rw [tn]
          refine ⟨t', ?_⟩
          simp only [e_55_0, e_55_1, e_55_3, e_55_6, e_55_9, e_55_10, e_55_11, e_55_12, e_55_16, e_55_18, e_55_21, e_55_22, e_55_23, e_55_26, e_55_27, e_55_29, e_55_32, e_55_35, e_55_38, e_55_41, e_55_43, e_55_44, e_55_45, e_55_48, e_55_51, e_55_52, e_55_53, e_55_56, e_55_57, e_55_58, e_55_61, e_55_64, e_55_65, e_55_66, e_55_67, e_55_70, e_55_71, e_55_72, e_55_73, e_55_74, e_55_77, e_55_78, e_55_79, e_55_82, e_55_83, e_55_86, e_55_89, e_55_90, e_55_91, e_55_93, e_55_96, e_55_99, e_55_100, e_55_101, e_55_104, e_55_107, e_55_108, Option.bind_some, Option.bind_none, m_kt, m_kn, Option.toList_some, Option.toList_none, List.nil_append, List.cons_append, List.append_nil, ltn, ite_not, ↓reduceIte, true_or, or_true, nP1, oI_s, oI_n, bI_f, bI_t, i1_0, i0_0, Bool.false_eq_true, not_true_eq_false, not_false_eq_true, LtI Z, LtS O (d + 4) Z x2, z, o01, List.length_nil, Nat.add_zero, wrC]
        · have zl := (sg_lt z).1
          have tn : tPl B l x.1 = some (sb B l x.1 + 1) := by unfold tPl; rw [z]; rfl
          rw [tn]
          have r := ih (i + 1) (p := sb B l x.1 + 1) (u := u') (D := D') (t := nI (sb B l x.1)) (.int (cc k y)) v (by omega) (by omega) (by rw [if_neg (by omega)]; omega) (by omega)
          rw [if_neg (show ¬ i + 1 = 0 by omega)] at r
          simp only [e_55_0, e_55_1, e_55_3, e_55_6, e_55_9, e_55_10, e_55_11, e_55_12, e_55_16, e_55_18, e_55_21, e_55_22, e_55_23, e_55_26, e_55_27, e_55_29, e_55_32, e_55_35, e_55_38, e_55_41, e_55_43, e_55_44, e_55_45, e_55_48, e_55_51, e_55_52, e_55_53, e_55_56, e_55_57, e_55_58, e_55_61, e_55_64, e_55_65, e_55_66, e_55_67, e_55_70, e_55_71, e_55_72, e_55_73, e_55_74, e_55_77, e_55_78, e_55_79, e_55_82, e_55_83, e_55_86, e_55_89, e_55_90, e_55_91, e_55_93, e_55_96, e_55_99, e_55_100, e_55_101, e_55_104, e_55_107, e_55_108, Option.bind_some, Option.bind_none, m_kt, m_kn, Option.toList_some, Option.toList_none, List.nil_append, List.cons_append, List.append_nil, ltn, ite_not, ↓reduceIte, true_or, or_true, nP1, oI_s, oI_n, bI_f, bI_t, i1_0, i0_0, Bool.false_eq_true, not_true_eq_false, not_false_eq_true, LtI Z, LtS O (d + 4) Z x2, z]
          exact r
      by_cases i0 : i = 0
      · have c := hc0 i0
        subst c i0
        have := es (u + 1) (upd D u (cc k y)) (by rw [if_pos rfl] at h3; omega)
        rw [e0, pe]
        simp only [e_55_0, e_55_1, e_55_3, e_55_6, e_55_9, e_55_10, e_55_11, e_55_12, e_55_16, e_55_18, e_55_21, e_55_22, e_55_23, e_55_26, e_55_27, e_55_29, e_55_32, e_55_35, e_55_38, e_55_41, e_55_43, e_55_44, e_55_45, e_55_48, e_55_51, e_55_52, e_55_53, e_55_56, e_55_57, e_55_58, e_55_61, e_55_64, e_55_65, e_55_66, e_55_67, e_55_70, e_55_71, e_55_72, e_55_73, e_55_74, e_55_77, e_55_78, e_55_79, e_55_82, e_55_83, e_55_86, e_55_89, e_55_91, e_55_93, e_55_96, e_55_99, e_55_100, e_55_101, e_55_104, e_55_107, e_55_108, Option.bind_some, Option.bind_none, m_kt, m_kn, Option.toList_some, Option.toList_none, List.nil_append, List.cons_append, List.append_nil, ltn, ite_not, ↓reduceIte, true_or, or_true, nP1, oI_s, oI_n, bI_f, bI_t, i1_0, i0_0, Bool.false_eq_true, not_true_eq_false, not_false_eq_true, ne, LaI Z, keep_ev O (d + 5) Z (show u < 400 by omega), cat_i, nI_0, (show ((0 : Int32) ≤ 0) = True by decide), List.length_cons, List.length_nil, Nat.zero_add, wrC]
        exact this
      · have ng : ¬ nI i ≤ 0 := by rw [nle0 (by omega)]; exact i0
        rw [if_neg i0] at h3
        have c := hc1 i0
        subst c
        have := es (u + 1 + 1) (upd (upd D u (cc k y)) (u + 1) 2000) (by omega)
        rw [e0, pe]
        simp only [e_55_0, e_55_1, e_55_3, e_55_6, e_55_9, e_55_10, e_55_11, e_55_12, e_55_16, e_55_18, e_55_21, e_55_22, e_55_23, e_55_26, e_55_27, e_55_29, e_55_32, e_55_35, e_55_38, e_55_41, e_55_43, e_55_44, e_55_45, e_55_48, e_55_51, e_55_52, e_55_53, e_55_56, e_55_57, e_55_58, e_55_61, e_55_64, e_55_65, e_55_66, e_55_67, e_55_70, e_55_71, e_55_72, e_55_73, e_55_74, e_55_77, e_55_78, e_55_79, e_55_82, e_55_83, e_55_86, e_55_89, e_55_91, e_55_93, e_55_96, e_55_99, e_55_100, e_55_101, e_55_104, e_55_107, e_55_108, Option.bind_some, Option.bind_none, m_kt, m_kn, Option.toList_some, Option.toList_none, List.nil_append, List.cons_append, List.append_nil, ltn, ite_not, ↓reduceIte, true_or, or_true, nP1, oI_s, oI_n, bI_f, bI_t, i1_0, i0_0, Bool.false_eq_true, not_true_eq_false, not_false_eq_true, ne, LaI Z, keep_ev O (d + 5) Z (show u < 400 by omega), keep_ev O (d + 5) Z (show u + 1 < 400 by omega), cat_i, ng, List.length_cons, List.length_nil, Nat.zero_add, wrC, (show cc 8 0 = 2000 from rfl), ← Nat.add_assoc]
        exact this
theorem readSum_ev (O : mO) (d : Nat) (X : LTX O) (Z : LZ h a l B) (hp' : p ≤ l) (hu : u + 4 ≤ p) : CR (ev O (d + 6) 55 0 [.ref a, .ref 49, mJ, mJ, mJ] [] (hLw h a l p t (-1) n u D)) h a l n u D (suS B l p) := by
  have r := sum_run (n := n) (D := D) (t := t) O d X Z (l + 1) 0 mJ mJ (by omega) hp' (by rw [if_pos rfl]; omega) (by omega)
  simp only [if_pos, List.append_nil, nI_0] at r
  simp only [e_55_0, e_55_1, e_55_3, e_55_6, e_55_9, e_55_10, e_55_11, e_55_12, e_55_16, e_55_18, e_55_21, e_55_22, e_55_23, e_55_26, e_55_27, e_55_29, e_55_32, e_55_35, e_55_38, e_55_41, e_55_43, e_55_44, e_55_45, e_55_48, e_55_51, e_55_52, e_55_53, e_55_56, e_55_57, e_55_58, e_55_61, e_55_64, e_55_65, e_55_66, e_55_67, e_55_70, e_55_71, e_55_72, e_55_73, e_55_74, e_55_77, e_55_78, e_55_79, e_55_82, e_55_83, e_55_86, e_55_89, e_55_90, e_55_91, e_55_93, e_55_96, e_55_99, e_55_100, e_55_101, e_55_104, e_55_107, e_55_108, Option.bind_some, Option.bind_none, m_kt, m_kn, Option.toList_some, Option.toList_none, List.nil_append, List.cons_append, List.append_nil, ltn, ite_not, ↓reduceIte, true_or, or_true, nP1, oI_s, oI_n, bI_f, bI_t, i1_0, i0_0, Bool.false_eq_true, not_true_eq_false, not_false_eq_true]
  exact r
end LawR
