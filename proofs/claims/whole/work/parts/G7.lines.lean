/-! Lines of the law: what they say; the class reads them -/
abbrev LN : Type := Int32 × CO
section SpecN
variable (B : Nat → Int32) (l : Nat)
def hedS (q : Nat) : Nat ⊕ (Int32 × Nat) := if wd B l q w_hide = true then .inr (-1, q + 4) else if wd B l q w_show = true then .inr (-2, q + 4) else if wd B l q w_fine = true then nmS B l (q + 4) 0 999 else .inl q
def lnS (p : Nat) : Nat ⊕ (LN × Nat) := sbd (hedS B l (sb B l p)) fun k => if wd B l (sb B l k.2) w_if = true then sbd (cnS B l (lev B l 6) (sb B l k.2 + 2)) fun x => .inr ((k.1, x.2), x.1) else .inr ((k.1, []), sb B l k.2)
def lsS : Nat → Nat → Nat ⊕ List LN
  | 0, p => .inl (sb B l p)
  | k + 1, p => sbd (lnS B l p) fun x => if sb B l x.2 = l then .inr [x.1] else if sg B l x.2 59 = true then sbd (lsS k (sb B l x.2 + 1)) fun L => .inr (x.1 :: L) else .inl (sb B l x.2)
def txS : Nat ⊕ List LN := if sb B l 0 = l then .inr [] else lsS B l 12 (sb B l 0)
end SpecN
def kdK (k : Int32) : Prop := k = -1 ∨ k = -2 ∨ ∃ f, f ≤ 999 ∧ k = nI f
def lnK (x : LN) : Prop := kdK x.1 ∧ (x.2 = [] ∨ okC 19 [] x.2 [true])
section SpecNG
variable {B : Nat → Int32} {l p : Nat}
theorem hedS_ok {q : Nat} {k : Int32 × Nat} (h : hedS B l q = .inr k) : kdK k.1 ∧ q + 4 ≤ k.2 ∧ k.2 ≤ l := by
  unfold hedS at h
  split at h
  · rename_i z
    cases h
    exact ⟨.inl rfl, Nat.le_refl _, (wd_le l_hide z).2⟩
  split at h
  · rename_i z
    cases h
    exact ⟨.inr (.inl rfl), Nat.le_refl _, (wd_le l_show z).2⟩
  split at h
  · obtain ⟨a1, a2, a3, j, hj, e⟩ := nmS_bd h
    exact ⟨.inr (.inr ⟨j, hj, e⟩), by omega, a2⟩
  · cases h
theorem lnS_ok {x : LN × Nat} (hp : p ≤ l) (h : lnS B l p = .inr x) : lnK x.1 ∧ p + 4 + x.1.2.length ≤ x.2 ∧ x.2 ≤ l := by
  obtain ⟨k, ek, h⟩ := sbd_ok h
  obtain ⟨k1, k2, k3⟩ := hedS_ok ek
  have s1 := sb_ge B l p
  have s2 := sb_ge B l k.2
  have s3 := sb_le (B := B) k3
  split at h
  · rename_i z
    have wl : sb B l k.2 + 2 ≤ l := (wd_le l_if z).2
    obtain ⟨y, ey, h⟩ := sbd_ok h
    cases h
    obtain ⟨y1, y2, y3, y4⟩ := cnS_ok (lev_ok 6) _ y wl ey
    exact ⟨⟨k1, .inr (y4 19 [] (by simp))⟩, by simp only; omega, y2⟩
  · cases h
    exact ⟨⟨k1, .inl rfl⟩, by simp only [List.length_nil]; omega, s3⟩
theorem lsS_ok : ∀ k {p : Nat} {L : List LN}, p ≤ l → lsS B l k p = .inr L → L.length ≤ k ∧ ∀ x ∈ L, lnK x
  | 0, p, L, hp, h => by cases h
  | k + 1, p, L, hp, h => by
    obtain ⟨x, ex, h⟩ := sbd_ok (x := lnS B l p) h
    obtain ⟨x1, x2, x3⟩ := lnS_ok hp ex
    split at h
    · cases h
      exact ⟨by simp, fun y hy => by simp at hy; rw [hy]; exact x1⟩
    split at h
    · rename_i z
      obtain ⟨M, eM, h⟩ := sbd_ok h
      cases h
      obtain ⟨a, b⟩ := lsS_ok k (by have := (sg_lt z).1; omega) eM
      refine ⟨by simp only [List.length_cons]; omega, fun y hy => ?_⟩
      rcases List.mem_cons.mp hy with q | q
      · rw [q]; exact x1
      · exact b y q
    · cases h
theorem txS_ok {L : List LN} (h : txS B l = .inr L) : L.length ≤ 12 ∧ ∀ x ∈ L, lnK x := by
  unfold txS at h
  split at h
  · cases h; exact ⟨by simp, fun x hx => by cases hx⟩
  · exact lsS_ok 12 (sb_le (Nat.zero_le _)) h
end SpecNG
theorem wrC_lo : ∀ (c : CO) (D : Nat → Int32) (u : Nat) {j : Nat}, j < u → wrC D u c j = D j
  | [], D, u, j, h => rfl
  | (k, x) :: r, D, u, j, h => by
    unfold wrC
    rw [wrC_lo r _ _ (by omega), pk_un (by omega)]
theorem wrC_at : ∀ (c : CO) (D : Nat → Int32) (u : Nat) {j : Nat} (hj : j < c.length), wrC D u c (u + j) = cc (c[j]).1 (c[j]).2
  | [], D, u, j, h => by simp at h
  | (k, x) :: r, D, u, j, h => by
    unfold wrC
    cases j with
    | zero =>
      rw [wrC_lo r _ _ (by omega)]
      exact pk_us
    | succ j =>
      simp only [List.length_cons] at h
      rw [show u + (j + 1) = u + 1 + j by omega, wrC_at r _ (u + 1) (by omega)]
      rfl
/-- what the class keeps of lines, from line i and code u on -/
def LnC (K F E D : Nat → Int32) : Nat → Nat → List LN → Prop
  | _, _, [] => True
  | i, u, x :: r => ((x.1 = -1 ∧ K i = 0) ∨ (x.1 = -2 ∧ K i = 1) ∨ ∃ f, f ≤ 999 ∧ x.1 = nI f ∧ K i = 2 ∧ F i = nI f) ∧ E i = nI (u + x.2.length) ∧ (∀ j (hj : j < x.2.length), D (u + j) = cc (x.2[j]).1 (x.2[j]).2) ∧ LnC K F E D (i + 1) (u + x.2.length) r
def tot : List LN → Nat
  | [] => 0
  | x :: r => x.2.length + tot r
def hK (h : mH) (a : Nat) (K F E : Nat → Int32) : mH := (((h.1.set (a + 1) (aI 12 K)).set (a + 2) (aI 12 F)).set (a + 3) (aI 12 E), h.2)
def KZ (h : mH) (a l : Nat) (B : Nat → Int32) : Prop := LZ h a l B ∧ (∃ c, h.1[a + 1]? = some c) ∧ (∃ c, h.1[a + 2]? = some c) ∧ ∃ c, h.1[a + 3]? = some c
section Lines
variable {h : mH} {a l p u : Nat} {t w n : Int32} {B D K F E : Nat → Int32}
theorem hK_LZ (Z : KZ h a l B) : LZ (hK h a K F E) a l B := by
  obtain ⟨⟨⟨c1, z1⟩, ⟨c2, z2⟩, ⟨c3, z3⟩, z4, z5, z6⟩, -⟩ := Z
  exact ⟨⟨c1, ((hne (by omega)).trans ((hne (by omega)).trans (hne (by omega)))).trans z1⟩, ⟨c2, ((hne (by omega)).trans ((hne (by omega)).trans (hne (by omega)))).trans z2⟩, ⟨c3, ((hne (by omega)).trans ((hne (by omega)).trans (hne (by omega)))).trans z3⟩, ((hne (by omega)).trans ((hne (by omega)).trans (hne (by omega)))).trans z4, z5, z6⟩
theorem hLw_at {b : Nat} (hb : b ≠ 49 ∧ b ≠ a ∧ b ≠ a + 4) : (hLw h a l p t w n u D).1[b]? = h.1[b]? := (hne (Ne.symm hb.2.2)).trans ((hne (Ne.symm hb.2.1)).trans (hne (Ne.symm hb.1)))
theorem hLw_set {b : Nat} (hb : b ≠ 49 ∧ b ≠ a ∧ b ≠ a + 4) (c : mC) : (((hLw h a l p t w n u D).1.set b c, (hLw h a l p t w n u D).2) : mH) = hLw (h.1.set b c, h.2) a l p t w n u D := by
  unfold hLw
  simp only
  rw [List.set_comm _ _ (Ne.symm hb.2.2), List.set_comm _ _ (Ne.symm hb.2.1), List.set_comm _ _ (Ne.symm hb.1)]
theorem gk1 (Z : KZ h a l B) : (hLw (hK h a K F E) a l p t w n u D).1[a + 1]? = some (aI 12 K) := by
  have ha := Z.1.2.2.2.2.2
  obtain ⟨-, ⟨c, e⟩, -, -⟩ := Z
  exact (hLw_at (by omega)).trans (((hne (by omega)).trans (hne (by omega))).trans (hget e))
theorem gk2 (Z : KZ h a l B) : (hLw (hK h a K F E) a l p t w n u D).1[a + 2]? = some (aI 12 F) := by
  have ha := Z.1.2.2.2.2.2
  obtain ⟨-, -, ⟨c, e⟩, -⟩ := Z
  exact (hLw_at (by omega)).trans ((hne (by omega)).trans (hget (c := c) ((hne (by omega)).trans e)))
theorem gk3 (Z : KZ h a l B) : (hLw (hK h a K F E) a l p t w n u D).1[a + 3]? = some (aI 12 E) := by
  have ha := Z.1.2.2.2.2.2
  obtain ⟨-, -, -, ⟨c, e⟩⟩ := Z
  exact (hLw_at (by omega)).trans (hget (c := c) (((hne (by omega)).trans (hne (by omega))).trans e))
theorem sk1 (Z : KZ h a l B) {i : Nat} (hi : i < 12) (x : Int32) : m_si (hLw (hK h a K F E) a l p t w n u D) (a + 1) (nI i) x = some (hLw (hK h a (upd K i x) F E) a l p t w n u D) := by
  have ha := Z.1.2.2.2.2.2
  rw [si_n (gk1 Z) hi (by decide), hLw_set (by omega)]
  unfold hK
  simp only
  rw [List.set_comm _ _ (show a + 3 ≠ a + 1 by omega), List.set_comm _ _ (show a + 2 ≠ a + 1 by omega), List.set_set]
theorem sk2 (Z : KZ h a l B) {i : Nat} (hi : i < 12) (x : Int32) : m_si (hLw (hK h a K F E) a l p t w n u D) (a + 2) (nI i) x = some (hLw (hK h a K (upd F i x) E) a l p t w n u D) := by
  have ha := Z.1.2.2.2.2.2
  rw [si_n (gk2 Z) hi (by decide), hLw_set (by omega)]
  unfold hK
  simp only
  rw [List.set_comm _ _ (show a + 3 ≠ a + 2 by omega), List.set_set]
theorem sk3 (Z : KZ h a l B) {i : Nat} (hi : i < 12) (x : Int32) : m_si (hLw (hK h a K F E) a l p t w n u D) (a + 3) (nI i) x = some (hLw (hK h a K F (upd E i x)) a l p t w n u D) := by
  have ha := Z.1.2.2.2.2.2
  rw [si_n (gk3 Z) hi (by decide), hLw_set (by omega)]
  unfold hK
  simp only
  rw [List.set_set]
/-- a line is read, or its fault told -/
def LX (r : Option mR) (h : mH) (a l : Nat) (n : Int32) (i u : Nat) (K F E D : Nat → Int32) (s : Nat ⊕ (LN × Nat)) : Prop := match s with
  | .inl f => ∃ p' t' u' K' F' E' D', r = some (.inl (some (.int (0))), hLw (hK h a K' F' E') a l p' t' (nI f) n u' D')
  | .inr x => ∃ t' K' F' E' D', r = some (.inl (some (.int (1))), hLw (hK h a K' F' E') a l x.2 t' (-1) n (u + x.1.2.length) D') ∧ ((x.1.1 = -1 ∧ K' i = 0) ∨ (x.1.1 = -2 ∧ K' i = 1) ∨ ∃ f, f ≤ 999 ∧ x.1.1 = nI f ∧ K' i = 2 ∧ F' i = nI f) ∧ E' i = nI (u + x.1.2.length) ∧ D' = wrC D u x.1.2 ∧ ∀ j, j < i → K' j = K j ∧ F' j = F j ∧ E' j = E j
theorem line_fin (O : mO) (d : Nat) (X : LTX O) (Z : KZ h a l B) {i : Nat} (hi : i < 12) (hp' : p ≤ l) (hu : u + 4 ≤ p) (kd : Int32) (fi : ¬ F i = -1) (hkd : (kd = -1 ∧ K i = 0) ∨ (kd = -2 ∧ K i = 1) ∨ ∃ f, f ≤ 999 ∧ kd = nI f ∧ K i = 2 ∧ F i = nI f) : LX (ev O (d + 21) 52 83 [.ref a, .ref 49, .int (nI i)] [] (hLw (hK h a K F E) a l p t (-1) n u D)) h a l n i u K F E D (if wd B l (sb B l p) w_if = true then sbd (cnS B l (lev B l 6) (sb B l p + 2)) fun x => .inr ((kd, x.2), x.1) else .inr ((kd, []), sb B l p)) := by
  have X0 := X
  obtain ⟨-, -, -, xif, -⟩ := X
  have Y := hK_LZ (K := K) (F := F) (E := E) Z
  have sp := sb_le (B := B) hp'
  have sq := sb_ge B l p
  have fe : ∀ {p : Nat} {t : Int32}, m_ai (hLw (hK h a K F E) a l p t (-1) n u D) (a + 2) (nI i) = some (F i) := ai_n (gk2 Z) (by omega) (by decide)
  have lo : ∀ x j, j < i → K j = K j ∧ F j = F j ∧ upd E i x j = E j := fun x j hj => ⟨rfl, rfl, pk_un (by omega)⟩
  cases z : wd B l (sb B l p) w_if
  · simp only [Bool.false_eq_true, ↓reduceIte]
    refine ⟨t, K, F, upd E i (nI u), D, ?_, hkd, pk_us, rfl, lo _⟩
    simp only [e_52_0, e_52_1, e_52_4, e_52_5, e_52_6, e_52_7, e_52_8, e_52_10, e_52_13, e_52_16, e_52_17, e_52_20, e_52_21, e_52_22, e_52_23, e_52_26, e_52_27, e_52_29, e_52_32, e_52_35, e_52_36, e_52_39, e_52_40, e_52_41, e_52_42, e_52_45, e_52_46, e_52_48, e_52_51, e_52_54, e_52_55, e_52_58, e_52_59, e_52_60, e_52_61, e_52_62, e_52_65, e_52_66, e_52_67, e_52_68, e_52_71, e_52_74, e_52_75, e_52_78, e_52_79, e_52_82, e_52_83, e_52_84, e_52_87, e_52_88, e_52_89, e_52_90, e_52_93, e_52_94, e_52_95, e_52_96, e_52_98, e_52_101, e_52_104, e_52_105, e_52_106, e_52_107, e_52_110, e_52_113, e_52_114, e_52_115, e_52_116, e_52_119, e_52_120, e_52_121, e_52_124, e_52_125, e_52_126, Option.bind_some, Option.bind_none, m_kt, m_kn, Option.toList_some, Option.toList_none, List.nil_append, List.cons_append, List.append_nil, ltn, ite_not, ↓reduceIte, true_or, or_true, nP1, oI_s, oI_n, bI_f, bI_t, i1_0, i0_0, Bool.false_eq_true, not_true_eq_false, not_false_eq_true, gL2 (La Y), fe, fi, LtI Y, LtW O (d + 15) Y hp' xif l_if, z, gL3 (La Y), gL5 (La Y), sk3 Z hi, o01, List.length_nil, Nat.add_zero]
  · have wl : sb B l p + 2 ≤ l := (wd_le l_if z).2
    have rc := readCond_ev (t := nI (sb B l p)) (n := n) (p := sb B l p + 2) (u := u) (D := D) O (d + 13) X0 Y (lev_ok 6) (lev_ev O X0 Y 6 (by omega) (d + 12) (by omega)) wl (by omega)
    simp only [↓reduceIte]
    cases e : cnS B l (lev B l 6) (sb B l p + 2) with
    | inl f =>
      rw [e] at rc
      obtain ⟨p', t', u', D', rc⟩ := rc
      have rc : ev O (d + 20) 53 0 [.ref a, .ref 49, .int 0, mJ, mJ, mJ] [] (hLw (hK h a K F E) a l (sb B l p + 2) (nI (sb B l p)) (-1) n u D) = _ := rc
      refine ⟨p', t', u', K, F, E, D', ?_⟩
      simp only [e_52_0, e_52_1, e_52_4, e_52_5, e_52_6, e_52_7, e_52_8, e_52_10, e_52_13, e_52_16, e_52_17, e_52_20, e_52_21, e_52_22, e_52_23, e_52_26, e_52_27, e_52_29, e_52_32, e_52_35, e_52_36, e_52_39, e_52_40, e_52_41, e_52_42, e_52_45, e_52_46, e_52_48, e_52_51, e_52_54, e_52_55, e_52_58, e_52_59, e_52_60, e_52_61, e_52_62, e_52_65, e_52_66, e_52_67, e_52_68, e_52_71, e_52_74, e_52_75, e_52_78, e_52_79, e_52_82, e_52_83, e_52_84, e_52_87, e_52_88, e_52_89, e_52_90, e_52_93, e_52_94, e_52_95, e_52_96, e_52_98, e_52_101, e_52_104, e_52_105, e_52_106, e_52_107, e_52_110, e_52_113, e_52_114, e_52_115, e_52_116, e_52_119, e_52_120, e_52_121, e_52_124, e_52_125, e_52_126, Option.bind_some, Option.bind_none, m_kt, m_kn, Option.toList_some, Option.toList_none, List.nil_append, List.cons_append, List.append_nil, ltn, ite_not, ↓reduceIte, true_or, or_true, nP1, oI_s, oI_n, bI_f, bI_t, i1_0, i0_0, Bool.false_eq_true, not_true_eq_false, not_false_eq_true, gL2 (La Y), fe, fi, LtI Y, LtW O (d + 15) Y hp' xif l_if, z, (show w_if.length = 2 from rfl), LaI Y, rc, z01]
    | inr x =>
      rw [e] at rc
      obtain ⟨t', rc⟩ := rc
      have rc : ev O (d + 20) 53 0 [.ref a, .ref 49, .int 0, mJ, mJ, mJ] [] (hLw (hK h a K F E) a l (sb B l p + 2) (nI (sb B l p)) (-1) n u D) = _ := rc
      refine ⟨t', K, F, upd E i (nI (u + x.2.length)), wrC D u x.2, ?_, hkd, pk_us, rfl, lo _⟩
      simp only [e_52_0, e_52_1, e_52_4, e_52_5, e_52_6, e_52_7, e_52_8, e_52_10, e_52_13, e_52_16, e_52_17, e_52_20, e_52_21, e_52_22, e_52_23, e_52_26, e_52_27, e_52_29, e_52_32, e_52_35, e_52_36, e_52_39, e_52_40, e_52_41, e_52_42, e_52_45, e_52_46, e_52_48, e_52_51, e_52_54, e_52_55, e_52_58, e_52_59, e_52_60, e_52_61, e_52_62, e_52_65, e_52_66, e_52_67, e_52_68, e_52_71, e_52_74, e_52_75, e_52_78, e_52_79, e_52_82, e_52_83, e_52_84, e_52_87, e_52_88, e_52_89, e_52_90, e_52_93, e_52_94, e_52_95, e_52_96, e_52_98, e_52_101, e_52_104, e_52_105, e_52_106, e_52_107, e_52_110, e_52_113, e_52_114, e_52_115, e_52_116, e_52_119, e_52_120, e_52_121, e_52_124, e_52_125, e_52_126, Option.bind_some, Option.bind_none, m_kt, m_kn, Option.toList_some, Option.toList_none, List.nil_append, List.cons_append, List.append_nil, ltn, ite_not, ↓reduceIte, true_or, or_true, nP1, oI_s, oI_n, bI_f, bI_t, i1_0, i0_0, Bool.false_eq_true, not_true_eq_false, not_false_eq_true, gL2 (La Y), fe, fi, LtI Y, LtW O (d + 15) Y hp' xif l_if, z, (show w_if.length = 2 from rfl), LaI Y, rc, gL3 (La Y), gL5 (La Y), sk3 Z hi, o01]
theorem LX_lo {r : Option mR} {i : Nat} {K1 F1 E1 : Nat → Int32} {s : Nat ⊕ (LN × Nat)} (L : LX r h a l n i u K1 F1 E1 D s) (q : ∀ j, j < i → K1 j = K j ∧ F1 j = F j ∧ E1 j = E j) : LX r h a l n i u K F E D s := by
  unfold LX at *
  cases s with
  | inl f => exact L
  | inr x =>
    obtain ⟨t', K', F', E', D', a1, a2, a3, a4, a5⟩ := L
    exact ⟨t', K', F', E', D', a1, a2, a3, a4, fun j hj => by obtain ⟨b1, b2, b3⟩ := a5 j hj; obtain ⟨c1, c2, c3⟩ := q j hj; exact ⟨b1.trans c1, b2.trans c2, b3.trans c3⟩⟩
theorem lawLine_ev (O : mO) (d : Nat) (X : LTX O) (Z : KZ h a l B) {i : Nat} (hi : i < 12) (hp' : p ≤ l) (hu : u ≤ p) : LX (ev O (d + 21) 52 0 [.ref a, .ref 49, .int (nI i)] [] (hLw (hK h a K F E) a l p t (-1) n u D)) h a l n i u K F E D (lnS B l p) := by
  have X0 := X
  obtain ⟨xhi, xsh, xfi, -⟩ := X
  have sp := sb_le (B := B) hp'
  have sq := sb_ge B l p
  have Y := fun K F => hK_LZ (K := K) (F := F) (E := E) Z
  have lo : ∀ x y j, j < i → upd K i x j = K j ∧ upd F i y j = F j ∧ E j = E j := fun x y j hj => ⟨pk_un (by omega), pk_un (by omega), rfl⟩
  unfold lnS hedS
  cases z1 : wd B l (sb B l p) w_hide
  · cases z2 : wd B l (sb B l p) w_show
    · cases z3 : wd B l (sb B l p) w_fine
      · refine ⟨sb B l p, t, u, K, upd F i 0, E, D, ?_⟩
        simp only [e_52_0, e_52_1, e_52_4, e_52_5, e_52_6, e_52_7, e_52_8, e_52_10, e_52_13, e_52_16, e_52_17, e_52_20, e_52_21, e_52_22, e_52_23, e_52_26, e_52_27, e_52_29, e_52_32, e_52_35, e_52_36, e_52_39, e_52_40, e_52_41, e_52_42, e_52_45, e_52_46, e_52_48, e_52_51, e_52_54, e_52_55, e_52_58, e_52_59, e_52_60, e_52_61, e_52_62, e_52_65, e_52_66, e_52_67, e_52_68, e_52_71, e_52_74, e_52_75, e_52_78, e_52_79, e_52_82, e_52_84, e_52_87, e_52_88, e_52_89, e_52_90, e_52_93, e_52_94, e_52_95, e_52_96, e_52_98, e_52_101, e_52_104, e_52_105, e_52_106, e_52_107, e_52_110, e_52_113, e_52_114, e_52_115, e_52_116, e_52_119, e_52_120, e_52_121, e_52_124, e_52_125, e_52_126, Option.bind_some, Option.bind_none, m_kt, m_kn, Option.toList_some, Option.toList_none, List.nil_append, List.cons_append, List.append_nil, ltn, ite_not, ↓reduceIte, true_or, or_true, nP1, oI_s, oI_n, bI_f, bI_t, i1_0, i0_0, Bool.false_eq_true, not_true_eq_false, not_false_eq_true, gL2 (La (Y _ _)), sk2 Z hi, LtI (Y _ _), LtW O (d + 15) (Y _ _) hp' xhi l_hide, z1, LtW O (d + 15) (Y _ _) sp xsh l_show, sb_sb, z2, LtW O (d + 15) (Y _ _) sp xfi l_fine, z3, LrN O (d + 19) (Y _ _) sp, z01]
      · have wl : sb B l p + 4 ≤ l := (wd_le l_fine z3).2
        simp only [Bool.false_eq_true, ↓reduceIte]
        unfold nmS
        cases e : num B l (sb B l p + 4) 0 999 with
        | none =>
          refine ⟨sb B l (sb B l p + 4), nI (sb B l p), u, upd K i 2, upd (upd F i 0) i (-1), E, D, ?_⟩
          have fe : ∀ {p : Nat} {t w : Int32}, m_ai (hLw (hK h a (upd K i 2) (upd (upd F i 0) i (-1)) E) a l p t w n u D) (a + 2) (nI i) = some (-1) := fun {p t w} => by
            rw [ai_n (gk2 Z) (by omega) (by decide), pk_us]
          simp only [e_52_0, e_52_1, e_52_4, e_52_5, e_52_6, e_52_7, e_52_8, e_52_10, e_52_13, e_52_16, e_52_17, e_52_20, e_52_21, e_52_22, e_52_23, e_52_26, e_52_27, e_52_29, e_52_32, e_52_35, e_52_36, e_52_39, e_52_40, e_52_41, e_52_42, e_52_45, e_52_46, e_52_48, e_52_51, e_52_54, e_52_55, e_52_58, e_52_59, e_52_60, e_52_61, e_52_62, e_52_65, e_52_66, e_52_67, e_52_68, e_52_71, e_52_74, e_52_75, e_52_78, e_52_79, e_52_82, e_52_83, e_52_84, e_52_87, e_52_88, e_52_89, e_52_90, e_52_93, e_52_94, e_52_95, e_52_96, e_52_98, e_52_101, e_52_104, e_52_105, e_52_106, e_52_107, e_52_110, e_52_113, e_52_114, e_52_115, e_52_116, e_52_119, e_52_120, e_52_121, e_52_124, e_52_125, e_52_126, Option.bind_some, Option.bind_none, m_kt, m_kn, Option.toList_some, Option.toList_none, List.nil_append, List.cons_append, List.append_nil, ltn, ite_not, ↓reduceIte, true_or, or_true, nP1, oI_s, oI_n, bI_f, bI_t, i1_0, i0_0, Bool.false_eq_true, not_true_eq_false, not_false_eq_true, gL2 (La (Y _ _)), sk2 Z hi, LtI (Y _ _), LtW O (d + 15) (Y _ _) hp' xhi l_hide, z1, LtW O (d + 15) (Y _ _) sp xsh l_show, sb_sb, z2, LtW O (d + 15) (Y _ _) sp xfi l_fine, z3, gL1 (La (Y _ _)), sk1 Z hi, (show w_fine.length = 4 from rfl), LtN O (d + 19) (Y _ _) wl, e, Option.elim_none, fe, z01]
        | some x =>
          obtain ⟨x1, x2, x3⟩ := nm_num e (by decide)
          obtain ⟨-, -, -, -, j, hj, ej⟩ := num_some (v := x.1) (p' := x.2) e
          have r := line_fin (t := nI (sb B l p)) (n := n) (p := x.2) (u := u) (K := upd K i 2) (F := upd (upd F i 0) i x.1) (E := E) (D := D) O d X0 Z hi x2 (by omega) x.1 (by rw [pk_us, x1]; exact id) (.inr (.inr ⟨j, hj, ej, pk_us, by rw [pk_us, ej]⟩))
          simp only [e_52_0, e_52_1, e_52_4, e_52_5, e_52_6, e_52_7, e_52_8, e_52_10, e_52_13, e_52_16, e_52_17, e_52_20, e_52_21, e_52_22, e_52_23, e_52_26, e_52_27, e_52_29, e_52_32, e_52_35, e_52_36, e_52_39, e_52_40, e_52_41, e_52_42, e_52_45, e_52_46, e_52_48, e_52_51, e_52_54, e_52_55, e_52_58, e_52_59, e_52_60, e_52_61, e_52_62, e_52_65, e_52_66, e_52_67, e_52_68, e_52_71, e_52_74, e_52_75, e_52_78, e_52_79, e_52_82, e_52_84, e_52_87, e_52_88, e_52_89, e_52_90, e_52_93, e_52_94, e_52_95, e_52_96, e_52_98, e_52_101, e_52_104, e_52_105, e_52_106, e_52_107, e_52_110, e_52_113, e_52_114, e_52_115, e_52_116, e_52_119, e_52_120, e_52_121, e_52_124, e_52_125, e_52_126, Option.bind_some, Option.bind_none, m_kt, m_kn, Option.toList_some, Option.toList_none, List.nil_append, List.cons_append, List.append_nil, ltn, ite_not, ↓reduceIte, true_or, or_true, nP1, oI_s, oI_n, bI_f, bI_t, i1_0, i0_0, Bool.false_eq_true, not_true_eq_false, not_false_eq_true, gL2 (La (Y _ _)), sk2 Z hi, LtI (Y _ _), LtW O (d + 15) (Y _ _) hp' xhi l_hide, z1, LtW O (d + 15) (Y _ _) sp xsh l_show, sb_sb, z2, LtW O (d + 15) (Y _ _) sp xfi l_fine, z3, gL1 (La (Y _ _)), sk1 Z hi, (show w_fine.length = 4 from rfl), LtN O (d + 19) (Y _ _) wl, e, Option.elim_some, sbd_r]
          rw [upd_upd] at r ⊢
          exact LX_lo r (lo _ _)
    · have wl : sb B l p + 4 ≤ l := (wd_le l_show z2).2
      have r := line_fin (t := nI (sb B l p)) (n := n) (p := sb B l p + 4) (u := u) (K := upd K i 1) (F := upd F i 0) (E := E) (D := D) O d X0 Z hi wl (by omega) (-2) (by rw [pk_us]; decide) (.inr (.inl ⟨rfl, pk_us⟩))
      simp only [e_52_0, e_52_1, e_52_4, e_52_5, e_52_6, e_52_7, e_52_8, e_52_10, e_52_13, e_52_16, e_52_17, e_52_20, e_52_21, e_52_22, e_52_23, e_52_26, e_52_27, e_52_29, e_52_32, e_52_35, e_52_36, e_52_39, e_52_40, e_52_41, e_52_42, e_52_45, e_52_46, e_52_48, e_52_51, e_52_54, e_52_55, e_52_58, e_52_59, e_52_60, e_52_61, e_52_62, e_52_65, e_52_66, e_52_67, e_52_68, e_52_71, e_52_74, e_52_75, e_52_78, e_52_79, e_52_82, e_52_84, e_52_87, e_52_88, e_52_89, e_52_90, e_52_93, e_52_94, e_52_95, e_52_96, e_52_98, e_52_101, e_52_104, e_52_105, e_52_106, e_52_107, e_52_110, e_52_113, e_52_114, e_52_115, e_52_116, e_52_119, e_52_120, e_52_121, e_52_124, e_52_125, e_52_126, Option.bind_some, Option.bind_none, m_kt, m_kn, Option.toList_some, Option.toList_none, List.nil_append, List.cons_append, List.append_nil, ltn, ite_not, ↓reduceIte, true_or, or_true, nP1, oI_s, oI_n, bI_f, bI_t, i1_0, i0_0, Bool.false_eq_true, not_true_eq_false, not_false_eq_true, gL2 (La (Y _ _)), sk2 Z hi, LtI (Y _ _), LtW O (d + 15) (Y _ _) hp' xhi l_hide, z1, LtW O (d + 15) (Y _ _) sp xsh l_show, sb_sb, z2, gL1 (La (Y _ _)), sk1 Z hi, (show w_show.length = 4 from rfl), sbd_r]
      exact LX_lo r (lo _ _)
  · have wl : sb B l p + 4 ≤ l := (wd_le l_hide z1).2
    have r := line_fin (t := nI (sb B l p)) (n := n) (p := sb B l p + 4) (u := u) (K := upd K i 0) (F := upd F i 0) (E := E) (D := D) O d X0 Z hi wl (by omega) (-1) (by rw [pk_us]; decide) (.inl ⟨rfl, pk_us⟩)
    simp only [e_52_0, e_52_1, e_52_4, e_52_5, e_52_6, e_52_7, e_52_8, e_52_10, e_52_13, e_52_16, e_52_17, e_52_20, e_52_21, e_52_22, e_52_23, e_52_26, e_52_27, e_52_29, e_52_32, e_52_35, e_52_36, e_52_39, e_52_40, e_52_41, e_52_42, e_52_45, e_52_46, e_52_48, e_52_51, e_52_54, e_52_55, e_52_58, e_52_59, e_52_60, e_52_61, e_52_62, e_52_65, e_52_66, e_52_67, e_52_68, e_52_71, e_52_74, e_52_75, e_52_78, e_52_79, e_52_82, e_52_84, e_52_87, e_52_88, e_52_89, e_52_90, e_52_93, e_52_94, e_52_95, e_52_96, e_52_98, e_52_101, e_52_104, e_52_105, e_52_106, e_52_107, e_52_110, e_52_113, e_52_114, e_52_115, e_52_116, e_52_119, e_52_120, e_52_121, e_52_124, e_52_125, e_52_126, Option.bind_some, Option.bind_none, m_kt, m_kn, Option.toList_some, Option.toList_none, List.nil_append, List.cons_append, List.append_nil, ltn, ite_not, ↓reduceIte, true_or, or_true, nP1, oI_s, oI_n, bI_f, bI_t, i1_0, i0_0, Bool.false_eq_true, not_true_eq_false, not_false_eq_true, gL2 (La (Y _ _)), sk2 Z hi, LtI (Y _ _), LtW O (d + 15) (Y _ _) hp' xhi l_hide, z1, gL1 (La (Y _ _)), sk1 Z hi, (show w_hide.length = 4 from rfl), sbd_r]
    exact LX_lo r (lo _ _)
end Lines
