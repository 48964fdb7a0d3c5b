/-! The reference's world, read: MW; its small methods -/
def MW (h : mH) (W : WD) : Prop := m_isc h 66 8 = true ∧ m_gf h 66 8 1 = some (.ref 67) ∧ h.1[67]? = some (aI 2101 W)
def inB (v lo hi : Int32) : Bool := decide (lo ≤ v) && decide (v ≤ hi)
theorem has_t (s : Int32) {p : Nat} (hp : p < 32) : (s >>> (nI p &&& 31)) &&& 1 = bI (bt s p) := by
  apply b_ext
  intro i hi
  rw [b_and, b_sshr p hp s hi]
  have e1 : bt (1 : Int32) i = decide (i = 0) := (by decide +kernel : ∀ i, i < 32 → bt (1 : Int32) i = decide (i = 0)) i hi
  rw [e1]
  by_cases h0 : i = 0
  · subst h0
    rw [if_pos (by omega)]
    rw [Nat.add_zero]; cases bt s p <;> decide +kernel
  · have : bt (bI (bt s p)) i = false := by
      cases bt s p
      · exact b_0 i
      · exact e1.trans (decide_eq_false h0)
    rw [this, decide_eq_false h0, Bool.and_false]
theorem bt_shl1 {p i : Nat} (hp : p < 32) (hi : i < 32) : bt (shl1 p) i = decide (i = p) := by
  unfold shl1
  rw [b_shl p hp 1 hi]
  have e1 : ∀ j, j < 32 → bt (1 : Int32) j = decide (j = 0) := by decide +kernel
  rw [e1 _ (by omega)]
  by_cases h : i = p
  · subst h; simp
  · rw [decide_eq_false h]
    by_cases h2 : p ≤ i
    · rw [decide_eq_false (show ¬ i - p = 0 by omega), Bool.and_false]
    · rw [decide_eq_false h2, Bool.false_and]
def bes (w g p s : Nat) : Option Nat := match s with
  | 0 => if w ≤ p then some (p - w) else none
  | 1 => if p % w + 1 < w then some (p + 1) else none
  | 2 => if p + w < w * g then some (p + w) else none
  | _ => if p % w = 0 then none else some (p - 1)
def oI (o : Option Nat) : Int32 := match o with
  | none => -1
  | some q => nI q
def mbx (w p s : Nat) : Int32 := nI p - nI p / nI w * nI w + (if nI s = 1 then 1 else if nI s = 3 then -1 else 0)
def mby (w p s : Nat) : Int32 := nI p / nI w + (if nI s = 2 then 1 else if nI s = 0 then -1 else 0)
def mbk (w g p s : Nat) : Bool := decide (1 ≤ w → p < w * g → (if (decide (0 ≤ mbx w p s) && decide (mbx w p s ≤ nI w - 1)) = true then (if (decide (0 ≤ mby w p s) && decide (mby w p s ≤ nI g - 1)) = true then nI w * mby w p s + mbx w p s else -1) else -1) = oI (bes w g p s))
theorem mbk_t : ∀ (w : Fin 7) (g : Fin 6) (p : Fin 30) (s : Fin 4), mbk w g p s = true := by decide +kernel
theorem mbes {w g p s : Nat} (hw : w < 7) (hg : g < 6) (hp : p < 30) (hs : s < 4) (h1 : 1 ≤ w) (h2 : p < w * g) : (if (decide (0 ≤ mbx w p s) && decide (mbx w p s ≤ nI w - 1)) = true then (if (decide (0 ≤ mby w p s) && decide (mby w p s ≤ nI g - 1)) = true then nI w * mby w p s + mbx w p s else -1) else -1) = oI (bes w g p s) := of_decide_eq_true (mbk_t ⟨w, hw⟩ ⟨g, hg⟩ ⟨p, hp⟩ ⟨s, hs⟩) h1 h2
theorem nq0_0 : (nI 0 = 0) = True := by decide
theorem nq0_1 : (nI 0 = 1) = False := by decide
theorem nq0_2 : (nI 0 = 2) = False := by decide
theorem nq0_3 : (nI 0 = 3) = False := by decide
theorem nq1_0 : (nI 1 = 0) = False := by decide
theorem nq1_1 : (nI 1 = 1) = True := by decide
theorem nq1_2 : (nI 1 = 2) = False := by decide
theorem nq1_3 : (nI 1 = 3) = False := by decide
theorem nq2_0 : (nI 2 = 0) = False := by decide
theorem nq2_1 : (nI 2 = 1) = False := by decide
theorem nq2_2 : (nI 2 = 2) = True := by decide
theorem nq2_3 : (nI 2 = 3) = False := by decide
theorem nq3_0 : (nI 3 = 0) = False := by decide
theorem nq3_1 : (nI 3 = 1) = False := by decide
theorem nq3_2 : (nI 3 = 2) = False := by decide
theorem nq3_3 : (nI 3 = 3) = True := by decide
theorem bes_lt {w g p s q : Nat} (hw : 1 ≤ w) (hp : p < w * g) (h : bes w g p s = some q) : q < w * g := by
  unfold bes at h
  split at h
  · split at h <;> simp at h; omega
  · split at h
    · rename_i q1
      simp at h
      have h1 : p / w < g := Nat.div_lt_of_lt_mul hp
      have h2 := Nat.div_add_mod p w
      have h3 : w * (p / w + 1) ≤ w * g := Nat.mul_le_mul_left w h1
      rw [Nat.mul_add, Nat.mul_one] at h3
      omega
    · simp at h
  · split at h <;> simp at h; omega
  · split at h <;> simp at h; omega
section Model
variable {h : mH} {W : WD}
theorem MW.w (H : MW h W) {i : Nat} (hi : i < 2101) : m_ai h 67 (nI i) = some (W i) := ai_n H.2.2 hi (by decide)
theorem MW.w0 (H : MW h W) : m_ai h 67 0 = some (W 0) := H.w (i := 0) (by decide)
theorem MW.w1 (H : MW h W) : m_ai h 67 1 = some (W 1) := H.w (i := 1) (by decide)
theorem MW.w2 (H : MW h W) : m_ai h 67 2 = some (W 2) := H.w (i := 2) (by decide)
theorem MW.w3 (H : MW h W) : m_ai h 67 3 = some (W 3) := H.w (i := 3) (by decide)
theorem MW.w4 (H : MW h W) : m_ai h 67 4 = some (W 4) := H.w (i := 4) (by decide)
theorem MW.w5 (H : MW h W) : m_ai h 67 5 = some (W 5) := H.w (i := 5) (by decide)
theorem MW.w6 (H : MW h W) : m_ai h 67 6 = some (W 6) := H.w (i := 6) (by decide)
theorem in_ev (O : mO) (d : Nat) (h : mH) (v lo hi : Int32) : ev O d 150 0 [.int v, .int lo, .int hi] [] h = some (.inl (some (.int (bI (inB v lo hi)))), h) := by
  simp only [e_150_0, e_150_1, e_150_2, e_150_5, e_150_6, e_150_7, e_150_10, e_150_11, e_150_14, e_150_15, Option.bind_some, Option.bind_none, m_kt, m_kn, Option.toList_some, Option.toList_none, List.nil_append, List.cons_append, List.append_nil, ltn, ite_not, ↓reduceIte, true_or, or_true, z01, o01]
  unfold inB
  by_cases h1 : lo ≤ v <;> by_cases h2 : v ≤ hi <;> simp [h1, h2, bI]
theorem has_ev (O : mO) (d : Nat) (h : mH) (s : Int32) {p : Nat} (hp : p < 32) : ev O d 164 0 [.int s, .int (nI p)] [] h = some (.inl (some (.int (bI (bt s p)))), h) := by
  simp only [e_164_0, e_164_1, e_164_2, e_164_3, e_164_4, e_164_5, e_164_6, e_164_9, e_164_10, e_164_13, e_164_14, Option.bind_some, Option.bind_none, m_kt, m_kn, Option.toList_some, Option.toList_none, List.nil_append, List.cons_append, List.append_nil, ltn, ite_not, ↓reduceIte, true_or, or_true, z01, o01, has_t s hp]
  cases bt s p <;> simp [bI]
theorem wide_ev (O : mO) (d : Nat) (H : MW h W) : ev O d 155 0 [.ref 66] [] h = some (.inl (some (.int (W 0))), h) := by
  simp only [e_155_0, e_155_1, e_155_4, e_155_5, e_155_6, Option.bind_some, Option.bind_none, m_kt, m_kn, Option.toList_some, Option.toList_none, List.nil_append, List.cons_append, List.append_nil, ltn, ite_not, ↓reduceIte, true_or, or_true, H.2.1, H.w0]
theorem panes_ev (O : mO) (d : Nat) (H : MW h W) (R : rng W) : ev O d 156 0 [.ref 66] [] h = some (.inl (some (.int (nI (pN W)))), h) := by
  simp only [e_156_0, e_156_1, e_156_4, e_156_5, e_156_6, e_156_7, e_156_10, e_156_11, e_156_12, e_156_13, Option.bind_some, Option.bind_none, m_kt, m_kn, Option.toList_some, Option.toList_none, List.nil_append, List.cons_append, List.append_nil, ltn, ite_not, ↓reduceIte, true_or, or_true, H.2.1, H.w0, H.w1, rW0 R, rW1 R, pk_mul]
  rfl
theorem all_ev (O : mO) (d : Nat) (H : MW h W) (R : rng W) : ev O (d + 1) 157 0 [.ref 66] [] h = some (.inl (some (.int (allI (wN W) (gN W)))), h) := by
  simp only [e_157_0, e_157_1, e_157_2, e_157_5, e_157_6, e_157_7, e_157_8, Option.bind_some, Option.bind_none, m_kt, m_kn, Option.toList_some, Option.toList_none, List.nil_append, List.cons_append, List.append_nil, ltn, ite_not, ↓reduceIte, true_or, or_true, H.1, panes_ev O d H R]
  rfl
theorem of_ev (O : mO) (d : Nat) (H : MW h W) {p k : Nat} (hp : p < 30) (hk : k < 6) : ev O d 158 0 [.ref 66, .int (nI p), .int (nI k)] [] h = some (.inl (some (.int (W (7 + 6 * p + k)))), h) := by
  simp only [e_158_0, e_158_1, e_158_4, e_158_6, e_158_8, e_158_9, e_158_10, e_158_11, e_158_12, e_158_13, e_158_14, Option.bind_some, Option.bind_none, m_kt, m_kn, Option.toList_some, Option.toList_none, List.nil_append, List.cons_append, List.append_nil, ltn, ite_not, ↓reduceIte, true_or, or_true, H.2.1, n6, nL7, nA, H.w (show 7 + 6 * p + k < 2101 by omega)]
theorem of0_ev (O : mO) (d : Nat) (H : MW h W) {p : Nat} (hp : p < 30) : ev O d 158 0 [.ref 66, .int (nI p), .int 0] [] h = some (.inl (some (.int (W (7 + 6 * p)))), h) := of_ev O d H hp (k := 0) (by omega)
theorem of1_ev (O : mO) (d : Nat) (H : MW h W) {p : Nat} (hp : p < 30) : ev O d 158 0 [.ref 66, .int (nI p), .int 1] [] h = some (.inl (some (.int (W (7 + 6 * p + 1)))), h) := of_ev O d H hp (k := 1) (by omega)
theorem of2_ev (O : mO) (d : Nat) (H : MW h W) {p : Nat} (hp : p < 30) : ev O d 158 0 [.ref 66, .int (nI p), .int 2] [] h = some (.inl (some (.int (W (7 + 6 * p + 2)))), h) := of_ev O d H hp (k := 2) (by omega)
theorem of3_ev (O : mO) (d : Nat) (H : MW h W) {p : Nat} (hp : p < 30) : ev O d 158 0 [.ref 66, .int (nI p), .int 3] [] h = some (.inl (some (.int (W (7 + 6 * p + 3)))), h) := of_ev O d H hp (k := 3) (by omega)
theorem of4_ev (O : mO) (d : Nat) (H : MW h W) {p : Nat} (hp : p < 30) : ev O d 158 0 [.ref 66, .int (nI p), .int 4] [] h = some (.inl (some (.int (W (7 + 6 * p + 4)))), h) := of_ev O d H hp (k := 4) (by omega)
theorem of5_ev (O : mO) (d : Nat) (H : MW h W) {p : Nat} (hp : p < 30) : ev O d 158 0 [.ref 66, .int (nI p), .int 5] [] h = some (.inl (some (.int (W (7 + 6 * p + 5)))), h) := of_ev O d H hp (k := 5) (by omega)
theorem ofCart_ev (O : mO) (d : Nat) (H : MW h W) {p k : Nat} (hp : p < 12) (hk : k < 5) : ev O d 193 0 [.ref 66, .int (nI p), .int (nI k)] [] h = some (.inl (some (.int (W (187 + 5 * p + k)))), h) := by
  simp only [e_193_0, e_193_1, e_193_4, e_193_7, e_193_8, e_193_9, e_193_10, e_193_11, e_193_12, e_193_13, e_193_14, Option.bind_some, Option.bind_none, m_kt, m_kn, Option.toList_some, Option.toList_none, List.nil_append, List.cons_append, List.append_nil, ltn, ite_not, ↓reduceIte, true_or, or_true, H.2.1, n5, nL187, nA, H.w (show 187 + 5 * p + k < 2101 by omega)]
theorem oc0_ev (O : mO) (d : Nat) (H : MW h W) {p : Nat} (hp : p < 12) : ev O d 193 0 [.ref 66, .int (nI p), .int 0] [] h = some (.inl (some (.int (W (187 + 5 * p)))), h) := ofCart_ev O d H hp (k := 0) (by omega)
theorem oc1_ev (O : mO) (d : Nat) (H : MW h W) {p : Nat} (hp : p < 12) : ev O d 193 0 [.ref 66, .int (nI p), .int 1] [] h = some (.inl (some (.int (W (187 + 5 * p + 1)))), h) := ofCart_ev O d H hp (k := 1) (by omega)
theorem oc2_ev (O : mO) (d : Nat) (H : MW h W) {p : Nat} (hp : p < 12) : ev O d 193 0 [.ref 66, .int (nI p), .int 2] [] h = some (.inl (some (.int (W (187 + 5 * p + 2)))), h) := ofCart_ev O d H hp (k := 2) (by omega)
theorem oc3_ev (O : mO) (d : Nat) (H : MW h W) {p : Nat} (hp : p < 12) : ev O d 193 0 [.ref 66, .int (nI p), .int 3] [] h = some (.inl (some (.int (W (187 + 5 * p + 3)))), h) := ofCart_ev O d H hp (k := 3) (by omega)
theorem oc4_ev (O : mO) (d : Nat) (H : MW h W) {p : Nat} (hp : p < 12) : ev O d 193 0 [.ref 66, .int (nI p), .int 4] [] h = some (.inl (some (.int (W (187 + 5 * p + 4)))), h) := ofCart_ev O d H hp (k := 4) (by omega)
theorem isBroken_ev (O : mO) (d : Nat) (H : MW h W) {p : Nat} (hp : p < 30) : ev O (d + 1) 162 0 [.ref 66, .int (nI p)] [] h = some (.inl (some (.int (bI (decide (W (7 + 6 * p + 3) = 3))))), h) := by
  simp only [e_162_0, e_162_1, e_162_2, e_162_3, e_162_6, e_162_7, e_162_10, e_162_11, e_162_14, e_162_15, Option.bind_some, Option.bind_none, m_kt, m_kn, Option.toList_some, Option.toList_none, List.nil_append, List.cons_append, List.append_nil, ltn, ite_not, ↓reduceIte, true_or, or_true, H.1, of3_ev O d H hp, z01, o01]
  by_cases h1 : W (7 + 6 * p + 3) = 3 <;> simp [h1, bI]
theorem mb_a (O : mO) (d : Nat) (H : MW h W) (R : rng W) {p : Nat} (s : Int32) (hp : p < 2 ^ 31) : ev O (d + 1) 163 0 [.ref 66, .int (nI p), .int s, mJ, mJ] [] h = ev O (d + 1) 163 6 [.ref 66, .int (nI p), .int s, mJ, mJ] [.int (nI (p % wN W))] h := by
  have hw := R.1.1.2
  have hw0 : ¬ nI (wN W) = 0 := nI_ne0 (by omega) (by omega)
  have hr : nI p - nI p / nI (wN W) * nI (wN W) = nI (p % wN W) := pk_rem hp (by omega) (by omega)
  rw [e_163_0, e_163_1, e_163_2, if_pos H.1, wide_ev O d H, Option.bind_some]
  show ev O (d + 1) 163 5 [.ref 66, .int (nI p), .int s, mJ, mJ] [.int (W 0), .int (nI p)] h = _
  rw [rW0 R, e_163_5, if_neg hw0, hr]
theorem mb_b (O : mO) (d : Nat) (H : MW h W) (R : rng W) {p : Nat} (s x : Int32) (hp : p < 2 ^ 31) : ev O (d + 1) 163 27 [.ref 66, .int (nI p), .int s, .int x, mJ] [] h = ev O (d + 1) 163 33 [.ref 66, .int (nI p), .int s, .int x, mJ] [.int (nI (p / wN W))] h := by
  have hw := R.1.1.2
  have hw0 : ¬ nI (wN W) = 0 := nI_ne0 (by omega) (by omega)
  have hr : nI p / nI (wN W) = nI (p / wN W) := pk_div hp (by omega) (by omega)
  rw [e_163_27, e_163_28, e_163_29, if_pos H.1, wide_ev O d H, Option.bind_some]
  show ev O (d + 1) 163 32 [.ref 66, .int (nI p), .int s, .int x, mJ] [.int (W 0), .int (nI p)] h = _
  rw [rW0 R, e_163_32, if_neg hw0, hr]
theorem mb_c (O : mO) (d : Nat) (H : MW h W) (R : rng W) (p s x y : Int32) : ev O (d + 1) 163 54 [.ref 66, .int p, .int s, .int x, .int y] [] h = some (.inl (some (.int (if inB x 0 (nI (wN W) - 1) = true then (if inB y 0 (nI (gN W) - 1) = true then nI (wN W) * y + x else -1) else -1))), h) := by
  cases q : inB x 0 (nI (wN W) - 1)
  · simp only [e_163_0, e_163_1, e_163_2, e_163_5, e_163_6, e_163_7, e_163_8, e_163_11, e_163_12, e_163_15, e_163_16, e_163_17, e_163_20, e_163_21, e_163_24, e_163_25, e_163_26, e_163_27, e_163_28, e_163_29, e_163_32, e_163_33, e_163_34, e_163_35, e_163_38, e_163_39, e_163_42, e_163_43, e_163_46, e_163_47, e_163_50, e_163_51, e_163_52, e_163_54, e_163_55, e_163_56, e_163_57, e_163_60, e_163_61, e_163_62, e_163_65, e_163_68, e_163_70, e_163_71, e_163_72, e_163_75, e_163_76, e_163_77, e_163_78, e_163_79, e_163_82, e_163_85, e_163_86, e_163_89, e_163_91, e_163_92, e_163_93, e_163_94, e_163_97, e_163_98, Option.bind_some, Option.bind_none, m_kt, m_kn, Option.toList_some, Option.toList_none, List.nil_append, List.cons_append, List.append_nil, ltn, ite_not, ↓reduceIte, true_or, or_true, H.1, wide_ev O d H, rW0 R, in_ev, bI_f, i0_0, q, Bool.false_eq_true]
  · cases q2 : inB y 0 (nI (gN W) - 1) <;> simp only [e_163_0, e_163_1, e_163_2, e_163_5, e_163_6, e_163_7, e_163_8, e_163_11, e_163_12, e_163_15, e_163_16, e_163_17, e_163_20, e_163_21, e_163_24, e_163_25, e_163_26, e_163_27, e_163_28, e_163_29, e_163_32, e_163_33, e_163_34, e_163_35, e_163_38, e_163_39, e_163_42, e_163_43, e_163_46, e_163_47, e_163_50, e_163_51, e_163_52, e_163_54, e_163_55, e_163_56, e_163_57, e_163_60, e_163_61, e_163_62, e_163_65, e_163_68, e_163_70, e_163_71, e_163_72, e_163_75, e_163_76, e_163_77, e_163_78, e_163_79, e_163_82, e_163_85, e_163_86, e_163_89, e_163_91, e_163_92, e_163_93, e_163_94, e_163_97, e_163_98, Option.bind_some, Option.bind_none, m_kt, m_kn, Option.toList_some, Option.toList_none, List.nil_append, List.cons_append, List.append_nil, ltn, ite_not, ↓reduceIte, true_or, or_true, H.1, H.2.1, H.w1, rW1 R, wide_ev O d H, rW0 R, in_ev, bI_f, bI_t, i0_0, i1_0, q, q2, Bool.false_eq_true]
theorem mbeside_ev (O : mO) (d : Nat) (H : MW h W) (R : rng W) {p s : Nat} (hp : p < pN W) (hs : s < 4) : ev O (d + 1) 163 0 [.ref 66, .int (nI p), .int (nI s), mJ, mJ] [] h = some (.inl (some (.int (oI (bes (wN W) (gN W) p s)))), h) := by
  have hN := pN_le R
  have hw := R.1.1.2
  have hg := R.1.2.1.2
  have hr : nI p - nI p / nI (wN W) * nI (wN W) = nI (p % wN W) := pk_rem (by omega) (by omega) (by omega)
  have hd : nI p / nI (wN W) = nI (p / wN W) := pk_div (by omega) (by omega) (by omega)
  have key := mbes (show wN W < 7 by omega) (show gN W < 6 by omega) (show p < 30 by omega) hs hw.1 hp
  unfold mbx mby at key
  rw [hr, hd] at key
  rw [mb_a O d H R _ (by omega), ← key]
  clear key hr hd
  have hb := fun x => mb_b O d H R (p := p) (nI s) x (by omega)
  generalize nI (p % wN W) = P at *
  generalize nI (p / wN W) = Q at *
  have hs' : s = 0 ∨ s = 1 ∨ s = 2 ∨ s = 3 := by omega
  rcases hs' with rfl | rfl | rfl | rfl
  all_goals
    simp only [e_163_0, e_163_1, e_163_2, e_163_5, e_163_6, e_163_7, e_163_8, e_163_11, e_163_12, e_163_15, e_163_16, e_163_17, e_163_20, e_163_21, e_163_24, e_163_25, e_163_26, e_163_28, e_163_29, e_163_32, e_163_33, e_163_34, e_163_35, e_163_38, e_163_39, e_163_42, e_163_43, e_163_46, e_163_47, e_163_50, e_163_51, e_163_52, e_163_55, e_163_56, e_163_57, e_163_60, e_163_61, e_163_62, e_163_65, e_163_68, e_163_70, e_163_71, e_163_72, e_163_75, e_163_76, e_163_77, e_163_78, e_163_79, e_163_82, e_163_85, e_163_86, e_163_89, e_163_91, e_163_92, e_163_93, e_163_94, e_163_97, e_163_98, Option.bind_some, Option.bind_none, m_kt, m_kn, Option.toList_some, Option.toList_none, List.nil_append, List.cons_append, List.append_nil, ltn, ite_not, ↓reduceIte, true_or, or_true, hb, mb_c O d H R, nq0_0, nq0_1, nq0_2, nq0_3, nq1_0, nq1_1, nq1_2, nq1_3, nq2_0, nq2_1, nq2_2, nq2_3, nq3_0, nq3_1, nq3_2, nq3_3, inB]
    rfl
theorem msun_ev (O : mO) (d : Nat) (h : mH) (hr : Int32) : ev O (d + 1) 191 0 [.int hr] [] h = some (.inl (some (.int (if inB hr 6 18 = true then 100 - 12 * (if 0 ≤ hr - 12 then hr - 12 else 0 - (hr - 12)) else 0))), h) := by
  simp only [e_191_0, e_191_1, e_191_3, e_191_5, e_191_8, e_191_11, e_191_13, e_191_15, e_191_16, e_191_18, e_191_19, e_191_22, e_191_23, e_191_24, e_191_27, e_191_28, Option.bind_some, Option.bind_none, m_kt, m_kn, Option.toList_some, Option.toList_none, List.nil_append, List.cons_append, List.append_nil, ltn, ite_not, ↓reduceIte, true_or, or_true, in_ev, bI_0]
  cases inB hr 6 18 <;> simp
end Model
