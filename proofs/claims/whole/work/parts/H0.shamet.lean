/-! The reference's call shame; what both keep of a law's text -/
def cpT (V : WD) (k : Nat) : WD := fun i => if 427 ≤ i ∧ i < 427 + k then V (i + 837) else V i
theorem cpT_s {V : WD} {k : Nat} (hk : k < 837) : upd (cpT V k) (427 + k) (cpT V k (1264 + k)) = cpT V (k + 1) := by
  have e : cpT V k (1264 + k) = V (1264 + k) := if_neg (by omega)
  rw [e]
  funext i
  unfold upd cpT
  by_cases z : i = 427 + k
  · rw [if_pos z, if_pos (by omega), z, show 427 + k + 837 = 1264 + k by omega]
  · rw [if_neg z]
    by_cases y : 427 ≤ i ∧ i < 427 + k
    · rw [if_pos y, if_pos (by omega)]
    · rw [if_neg y, if_neg (by omega)]
def STm (s : Nat ⊕ List LN) (W : WD) (m' : Nat → Int32) (W' : WD) (v : Int32) : Prop := match s with
  | .inl f => m' 0 = 1 ∧ m' 13 = nI f ∧ ∀ i, i < 1264 → W' i = W i
  | .inr L => m' 0 = 0 ∧ m' 13 = -1 ∧ v = nI L.length ∧ W' 4 = 1 ∧ W' 427 = nI L.length ∧ (∀ i, i < 427 → i ≠ 4 → W' i = W i) ∧ ∃ V, LnM V 0 0 L ∧ ∀ j, 428 ≤ j → j < 1264 → W' j = V (j + 837)
def SMc (b : Nat) : Prop := b = 66 ∨ b = 67
section MshameS
variable {h : mH} {m : Nat → Int32} {W : WD}
theorem nL1264 (k : Nat) : (1264 : Int32) + nI k = nI (1264 + k) := nI_add 1264 k
theorem Mshame_ev (O : mO) (d : Nat) (X : MTL O) (H : MS h m W) {l : Nat} {B : Nat → Int32} (h8 : m 8 = nI l) (hl : l ≤ 400) (e71 : h.1[71]? = some (aB 400 B)) : ∃ h' m' W' v, ev O (d + 32) 190 0 [.ref 66, mJ, mJ] [] h = some (.inl (some (.int (v))), h') ∧ MS h' m' W' ∧ out SMc h h' ∧ m' 8 = 0 ∧ m' 4 = m 4 ∧ m' 6 = m 6 ∧ STm (txS B l) W m' W' v := by
  have H0 := H.t 0
  have k71 : (tH h m 0).1[71]? = some (aB 400 B) := (hne (by decide)).trans e71
  have o1 : out SMc h (tH h m 0) := out.st h _ (.inl rfl)
  have ra := readAllS_ev O d X H0 (show upd m 0 0 8 = nI l from h8) hl k71
  have R : RZ (tH h m 0) (mRA (upd m 0 0)) l B := ⟨⟨_, H0.1⟩, ⟨W, H0.2⟩, k71, h8, hl⟩
  have zo : ∀ {p b dp st : Int32} {V : WD}, out SMc h (hz (tH h m 0) (mRA (upd m 0 0)) p b dp st V) := fun {p b dp st V} => by
    refine o1.tr1 ⟨rfl, by unfold hz; simp, fun b hb => ?_⟩
    exact (hne (fun e : 67 = b => hb (.inr e.symm))).trans (hne (fun e : 66 = b => hb (.inl e.symm)))
  cases e : txS B l with
  | inl f =>
    rw [e] at ra
    obtain ⟨p', dp', s', V', ra, rv⟩ := ra
    let s := hz (tH h m 0) (mRA (upd m 0 0)) p' (nI f) dp' s' V'
    let q := upd (mz5 (mRA (upd m 0 0)) p' (nI f) dp' s') 13 (nI f)
    let s2 : mH := (s.1.set 66 (oM q), s.2)
    have M2 : MS s2 q V' := ⟨hget (Z66 R), (hne (by decide)).trans (ZMS R).2⟩
    have p13 : m_pf (hz (tH h m 0) (mRA (upd m 0 0)) p' (nI f) dp' s' V') 66 8 13 (.int (nI f)) = some s2 := pM13 (Z66 R) _
    refine ⟨tH s2 q 1, upd q 0 1, V', 0, ?_, M2.t 1, ?_, rfl, rfl, rfl, rfl, rfl, rv⟩
    · simp only [e_190_0, e_190_1, e_190_2, e_190_5, e_190_6, e_190_7, e_190_10, e_190_11, e_190_12, e_190_13, e_190_16, e_190_17, e_190_20, e_190_23, e_190_24, e_190_27, e_190_28, e_190_29, e_190_32, e_190_33, e_190_36, e_190_37, e_190_38, e_190_41, e_190_44, e_190_45, e_190_46, e_190_47, e_190_50, e_190_53, e_190_54, e_190_55, e_190_56, e_190_58, e_190_61, e_190_64, e_190_65, e_190_68, e_190_71, e_190_72, e_190_73, e_190_74, e_190_77, e_190_80, e_190_81, e_190_82, e_190_83, e_190_84, e_190_87, e_190_90, e_190_91, e_190_94, e_190_95, e_190_96, e_190_97, e_190_98, Option.bind_some, Option.bind_none, m_kt, m_kn, Option.toList_some, Option.toList_none, List.nil_append, List.cons_append, List.append_nil, ltn, ite_not, ↓reduceIte, true_or, or_true, nP1, oI_s, oI_n, bI_f, bI_t, i1_0, i0_0, Bool.false_eq_true, not_true_eq_false, not_false_eq_true, pMt H, H0.isc, ra, m1_0, gz11 R, p13, M2.isc, thr1_ev O (d + 31) M2]
    · exact (zo.tr1 (out.st s _ (.inl rfl))).tr1 (out.st s2 _ (.inl rfl))
  | inr L =>
    rw [e] at ra
    obtain ⟨p', b', dp', s', V, ra, ln, v1, -⟩ := ra
    rw [Nat.zero_add] at ra
    have L12 := (txS_ok e).1
    have n0 := n0le (n := L.length) (by omega)
    let s := hz (tH h m 0) (mRA (upd m 0 0)) p' b' dp' s' V
    let q := upd (mz5 (mRA (upd m 0 0)) p' b' dp' s') 13 (-1)
    let s2 : mH := (s.1.set 66 (oM q), s.2)
    have M2 : MS s2 q V := ⟨hget (Z66 R), (hne (by decide)).trans (ZMS R).2⟩
    have p13 : m_pf (hz (tH h m 0) (mRA (upd m 0 0)) p' b' dp' s' V) 66 8 13 (.int (-1)) = some s2 := pM13 (Z66 R) _
    let V1 : WD := upd V 1264 (nI L.length)
    have MT : ∀ U, MS (hT s2 U) q U := fun U => hT_MS M2 U
    have s1 : ∀ U k x, k < 2101 → m_si (hT s2 U) 67 (nI k) x = some (hT s2 (upd U k x)) := fun U k x hk => by
      rw [hT_s (MT U) hk, hT_hT]
    have key : ∀ n k, k + n = 837 → ev O (d + 32) 190 57 [.ref 66, .int (nI L.length), .int (nI k)] [] (hT s2 (cpT V1 k)) = ev O (d + 32) 190 57 [.ref 66, .int (nI L.length), .int (nI 837)] [] (hT s2 (cpT V1 837)) := by
      intro n
      induction n with
      | zero => intro k hk; rw [show k = 837 by omega]
      | succ n ih =>
        intro k hk
        have c1 : ¬ (837 : Int32) ≤ nI k := nI_ge (b := 837) (by omega) (by omega)
        rw [e_190_57]
        simp only [e_190_0, e_190_1, e_190_2, e_190_5, e_190_6, e_190_7, e_190_10, e_190_11, e_190_12, e_190_13, e_190_16, e_190_17, e_190_20, e_190_23, e_190_24, e_190_27, e_190_28, e_190_29, e_190_32, e_190_33, e_190_36, e_190_37, e_190_38, e_190_41, e_190_44, e_190_45, e_190_46, e_190_47, e_190_50, e_190_53, e_190_54, e_190_55, e_190_56, e_190_58, e_190_61, e_190_64, e_190_65, e_190_68, e_190_71, e_190_72, e_190_73, e_190_74, e_190_77, e_190_80, e_190_81, e_190_82, e_190_83, e_190_84, e_190_87, e_190_90, e_190_91, e_190_94, e_190_95, e_190_96, e_190_97, e_190_98, Option.bind_some, Option.bind_none, m_kt, m_kn, Option.toList_some, Option.toList_none, List.nil_append, List.cons_append, List.append_nil, ltn, ite_not, ↓reduceIte, true_or, or_true, nP1, oI_s, oI_n, bI_f, bI_t, i1_0, i0_0, Bool.false_eq_true, not_true_eq_false, not_false_eq_true, c1, gM1 (MT _).1, nL427, nL1264, (MT _).w.w (show 1264 + k < 2101 by omega), s1 _ _ _ (show 427 + k < 2101 by omega), cpT_s (show k < 837 by omega)]
        exact ih (k + 1) (by omega)
    have c0 : cpT V1 0 = V1 := by funext i; unfold cpT; rw [if_neg (by omega)]
    have k0 := key 837 0 (by omega)
    rw [c0, nI_0] at k0
    have s3 : m_si s2 67 1264 (nI L.length) = some (hT s2 V1) := hT_s M2 (show 1264 < 2101 by omega) _
    have s4 : m_si (hT s2 (cpT V1 837)) 67 4 1 = some (hT s2 (upd (cpT V1 837) 4 1)) := s1 _ 4 1 (by omega)
    have ge : ∀ j, 427 ≤ j → j < 1264 → upd (cpT V1 837) 4 1 j = V1 (j + 837) := fun j h1 h2 => by
      rw [pk_un (by omega)]; exact if_pos (by omega)
    refine ⟨hT s2 (upd (cpT V1 837) 4 1), q, upd (cpT V1 837) 4 1, nI L.length, ?_, MT _, ?_, rfl, rfl, rfl, rfl, rfl, rfl, pk_us, ?_, fun i h1 h2 => ?_, V, ln, fun j h1 h2 => ?_⟩
    · simp only [e_190_0, e_190_1, e_190_2, e_190_5, e_190_6, e_190_7, e_190_10, e_190_11, e_190_12, e_190_13, e_190_16, e_190_17, e_190_20, e_190_23, e_190_24, e_190_27, e_190_28, e_190_29, e_190_32, e_190_33, e_190_36, e_190_37, e_190_38, e_190_41, e_190_44, e_190_45, e_190_46, e_190_47, e_190_50, e_190_53, e_190_54, e_190_55, e_190_56, e_190_58, e_190_61, e_190_64, e_190_65, e_190_68, e_190_71, e_190_72, e_190_73, e_190_74, e_190_77, e_190_80, e_190_81, e_190_82, e_190_83, e_190_84, e_190_87, e_190_90, e_190_91, e_190_94, e_190_95, e_190_96, e_190_97, e_190_98, Option.bind_some, Option.bind_none, m_kt, m_kn, Option.toList_some, Option.toList_none, List.nil_append, List.cons_append, List.append_nil, ltn, ite_not, ↓reduceIte, true_or, or_true, nP1, oI_s, oI_n, bI_f, bI_t, i1_0, i0_0, Bool.false_eq_true, not_true_eq_false, not_false_eq_true, pMt H, H0.isc, ra, n0, p13, M2.isc, thr0_ev O (d + 31) M2, gM1 M2.1, s3]
      refine k0.trans ?_
      rw [e_190_57]
      simp only [e_190_0, e_190_1, e_190_2, e_190_5, e_190_6, e_190_7, e_190_10, e_190_11, e_190_12, e_190_13, e_190_16, e_190_17, e_190_20, e_190_23, e_190_24, e_190_27, e_190_28, e_190_29, e_190_32, e_190_33, e_190_36, e_190_37, e_190_38, e_190_41, e_190_44, e_190_45, e_190_46, e_190_47, e_190_50, e_190_53, e_190_54, e_190_55, e_190_56, e_190_58, e_190_61, e_190_64, e_190_65, e_190_68, e_190_71, e_190_72, e_190_73, e_190_74, e_190_77, e_190_80, e_190_81, e_190_82, e_190_83, e_190_84, e_190_87, e_190_90, e_190_91, e_190_94, e_190_95, e_190_96, e_190_97, e_190_98, Option.bind_some, Option.bind_none, m_kt, m_kn, Option.toList_some, Option.toList_none, List.nil_append, List.cons_append, List.append_nil, ltn, ite_not, ↓reduceIte, true_or, or_true, nP1, oI_s, oI_n, bI_f, bI_t, i1_0, i0_0, Bool.false_eq_true, not_true_eq_false, not_false_eq_true, (show ((837 : Int32) ≤ nI 837) = True by decide), gM1 (MT _).1, s4]
    · exact (zo.tr1 (out.st s _ (.inl rfl))).tr1 (out.st s2 _ (.inr rfl))
    · rw [ge 427 (by omega) (by omega)]
      exact pk_us
    · rw [pk_un h2]
      have : cpT V1 837 i = V1 i := if_neg (by omega)
      rw [this]
      show upd V 1264 _ i = W i
      rw [pk_un (by omega), v1 i (by omega)]
    · rw [ge j (by omega) h2]
      exact pk_un (by omega)
end MshameS
/-! The text that both keep -/
theorem lsS_tot {B : Nat → Int32} {l : Nat} : ∀ k {p : Nat} {L : List LN}, p ≤ l → lsS B l k p = .inr L → p + tot L ≤ l
  | 0, p, L, hp, h => by cases h
  | k + 1, p, L, hp, h => by
    obtain ⟨x, ex, h⟩ := sbd_ok (x := lnS B l p) h
    obtain ⟨x1, x2, x3⟩ := lnS_ok hp ex
    have s3 := sb_ge B l x.2
    split at h
    · cases h
      simp only [tot]; omega
    split at h
    · rename_i z
      obtain ⟨M, eM, h⟩ := sbd_ok h
      cases h
      have := lsS_tot k (by have := (sg_lt z).1; omega) eM
      simp only [tot]; omega
    · cases h
theorem txS_tot {B : Nat → Int32} {l : Nat} {L : List LN} (h : txS B l = .inr L) : tot L ≤ l := by
  unfold txS at h
  split at h
  · cases h; exact Nat.zero_le _
  · have := lsS_tot 12 (sb_le (Nat.zero_le _)) h
    omega
theorem tot_take : ∀ (L : List LN) {i : Nat} (hi : i < L.length), tot (L.take (i + 1)) = tot (L.take i) + (L[i]).2.length
  | [], i, h => by simp at h
  | x :: r, 0, h => by simp [tot]
  | x :: r, i + 1, h => by
    simp only [List.length_cons] at h
    have := tot_take r (i := i) (by omega)
    simp only [List.take_succ_cons, tot, this, List.getElem_cons_succ]
    omega
theorem tot_le : ∀ (L : List LN) (i : Nat), tot (L.take i) ≤ tot L
  | [], i => by simp [tot]
  | x :: r, 0 => by simp [tot]
  | x :: r, i + 1 => by
    have := tot_le r i
    simp only [List.take_succ_cons, tot]; omega
theorem LnM_i {V : WD} : ∀ (L : List LN) {i s : Nat}, LnM V i s L → ∀ j (hj : j < L.length), V (1265 + 3 * (i + j)) = (L[j]).1 ∧ V (1265 + 3 * (i + j) + 1) = nI (s + tot (L.take j)) ∧ V (1265 + 3 * (i + j) + 2) = nI (s + tot (L.take (j + 1))) ∧ ∀ q (hq : q < (L[j]).2.length), V (1301 + 2 * (s + tot (L.take j) + q)) = nI ((L[j]).2[q]).1 ∧ V (1301 + 2 * (s + tot (L.take j) + q) + 1) = ((L[j]).2[q]).2
  | [], i, s, h, j, hj => by simp at hj
  | x :: r, i, s, h, 0, hj => by
    obtain ⟨a, b, c, e, -⟩ := h
    refine ⟨a, ?_, ?_, fun q hq => ?_⟩
    · rw [Nat.add_zero]; exact b
    · have : tot ((x :: r).take (0 + 1)) = x.2.length := by simp [tot]
      rw [this, Nat.add_zero]; exact c
    · exact e q hq
  | x :: r, i, s, h, j + 1, hj => by
    obtain ⟨-, -, -, -, h⟩ := h
    simp only [List.length_cons] at hj
    have := LnM_i r h j (by omega)
    simp only [List.take_succ_cons, tot, List.getElem_cons_succ]
    rw [show i + (j + 1) = i + 1 + j by omega]
    simp only [← Nat.add_assoc]
    exact this
theorem LnC_i {K F E D : Nat → Int32} : ∀ (L : List LN) {i u : Nat}, LnC K F E D i u L → ∀ j (hj : j < L.length), E (i + j) = nI (u + tot (L.take (j + 1))) ∧ (((L[j]).1 = -1 ∧ K (i + j) = 0) ∨ ((L[j]).1 = -2 ∧ K (i + j) = 1) ∨ ∃ f, f ≤ 999 ∧ (L[j]).1 = nI f ∧ K (i + j) = 2 ∧ F (i + j) = nI f)
  | [], i, s, h, j, hj => by simp at hj
  | x :: r, i, s, h, 0, hj => by
    obtain ⟨a, b, -, -⟩ := h
    refine ⟨?_, a⟩
    have : tot ((x :: r).take (0 + 1)) = x.2.length := by simp [tot]
    rw [this]; exact b
  | x :: r, i, s, h, j + 1, hj => by
    obtain ⟨-, -, -, h⟩ := h
    simp only [List.length_cons] at hj
    have := LnC_i r h j (by omega)
    simp only [List.take_succ_cons, tot, List.getElem_cons_succ]
    rw [show i + (j + 1) = i + 1 + j by omega]
    simp only [← Nat.add_assoc]
    exact this
theorem okC_mem {N : Nat} : ∀ {c : CO} {ts te : List Bool}, okC N ts c te → ∀ j (hj : j < c.length), (c[j]).1 ≤ 13 ∧ ∃ x, x ≤ 999 ∧ (c[j]).2 = nI x
  | [], ts, te, h, j, hj => by simp at hj
  | (k, x) :: r, ts, te, h, 0, hj => ⟨h.2.1, h.2.2.1⟩
  | (k, x) :: r, ts, te, h, j + 1, hj => by
    obtain ⟨-, -, -, t, -, h⟩ := h
    simp only [List.length_cons] at hj
    exact okC_mem h j (by omega)
theorem codes_eq {K F E D : Nat → Int32} {V : WD} : ∀ (L : List LN) {i u : Nat}, (∀ x ∈ L, lnK x) → LnC K F E D i u L → LnM V i u L → ∀ j, u ≤ j → j < u + tot L → D j = cc (V (1301 + 2 * j)).toNatClampNeg (V (1301 + 2 * j + 1))
  | [], i, u, hk, h1, h2, j, a, b => by simp only [tot] at b; omega
  | x :: r, i, u, hk, h1, h2, j, a, b => by
    obtain ⟨-, -, d1, h1⟩ := h1
    obtain ⟨-, -, -, d2, h2⟩ := h2
    simp only [tot] at b
    by_cases z : j < u + x.2.length
    · obtain ⟨q, rfl⟩ : ∃ q, j = u + q := ⟨j - u, by omega⟩
      have hq : q < x.2.length := by omega
      obtain ⟨e1, e2⟩ := d2 q hq
      rw [d1 q hq, e1, e2]
      have k13 : (x.2[q]).1 ≤ 13 := by
        rcases (hk x (List.mem_cons_self ..)).2 with w | w
        · rw [w] at hq; simp at hq
        · exact (okC_mem w q hq).1
      rw [nI_clamp (by omega)]
    · exact codes_eq r (fun y hy => hk y (List.mem_cons_of_mem _ hy)) h1 h2 j (by omega) (by omega)
theorem ty_codes {W : WD} {b : Nat} {c : CO} (hc : ∀ j (hj : j < c.length), kk W (b + j) = (c[j]).1) {N : Nat} (ok : okC N [] c [true]) : ∀ m, m ≤ c.length → ∃ ts, tyR W b m = some ts ∧ okC N ts (c.drop m) [true]
  | 0, _ => ⟨[], rfl, by rw [List.drop_zero]; exact ok⟩
  | m + 1, h => by
    obtain ⟨ts, e, o⟩ := ty_codes hc ok m (by omega)
    rw [List.drop_eq_getElem_cons (show m < c.length by omega)] at o
    obtain ⟨-, -, -, t, et, o⟩ := o
    refine ⟨t, ?_, o⟩
    have : tyR W b (m + 1) = (tyR W b m).bind (tyL (kk W (b + m))) := rfl
    rw [this, e, Option.bind_some, hc m (by omega)]
    exact et
theorem text_ok {W V : WD} {L : List LN} (hk : ∀ x ∈ L, lnK x) (h12 : L.length ≤ 12) (h400 : tot L ≤ 400) (w : W 427 = nI L.length) (ln : LnM V 0 0 L) (e : ∀ j, 428 ≤ j → j < 1264 → W j = V (j + 837)) : TXT W L.length (fun i => tot (L.take i)) := by
  refine ⟨h12, w, rfl, fun i hi => Nat.le_trans (tot_le L i) h400, fun i hi => ?_⟩
  obtain ⟨a1, a2, a3, a4⟩ := LnM_i L ln i hi
  have ts := tot_take L hi
  have tl := tot_le L (i + 1)
  have g0 : W (428 + 3 * i) = (L[i]).1 := by rw [e _ (by omega) (by omega), show 428 + 3 * i + 837 = 1265 + 3 * (0 + i) by omega]; exact a1
  have g1 : W (428 + 3 * i + 1) = nI (tot (L.take i)) := by rw [e _ (by omega) (by omega), show 428 + 3 * i + 1 + 837 = 1265 + 3 * (0 + i) + 1 by omega, a2, Nat.zero_add]
  have g2 : W (428 + 3 * i + 2) = nI (tot (L.take (i + 1))) := by rw [e _ (by omega) (by omega), show 428 + 3 * i + 2 + 837 = 1265 + 3 * (0 + i) + 2 by omega, a3, Nat.zero_add]
  obtain ⟨k1, k2⟩ := hk _ (List.getElem_mem hi)
  have gc : ∀ q (hq : q < (L[i]).2.length), W (464 + 2 * (tot (L.take i) + q)) = nI ((L[i]).2[q]).1 ∧ W (464 + 2 * (tot (L.take i) + q) + 1) = ((L[i]).2[q]).2 := fun q hq => by
    have := a4 q hq
    rw [Nat.zero_add] at this
    rw [e _ (by omega) (by omega), e _ (by omega) (by omega), show 464 + 2 * (tot (L.take i) + q) + 837 = 1301 + 2 * (tot (L.take i) + q) by omega, show 464 + 2 * (tot (L.take i) + q) + 1 + 837 = 1301 + 2 * (tot (L.take i) + q) + 1 by omega]
    exact this
  have ok : ¬ (L[i]).2 = [] → okC 19 [] (L[i]).2 [true] := fun z => k2.resolve_left z
  have ne : ∀ {q : Nat}, q < (L[i]).2.length → ¬ (L[i]).2 = [] := fun hq z => by rw [z] at hq; simp at hq
  have kq : ∀ q (hq : q < (L[i]).2.length), kk W (tot (L.take i) + q) = ((L[i]).2[q]).1 := fun q hq => by
    unfold kk
    have := (okC_mem (ok (ne hq)) q hq).1
    rw [(gc q hq).1, nI_clamp (by omega)]
  dsimp only
  refine ⟨by omega, g1, g2, ?_, fun j h1 h2 => ?_, fun mm hm => ?_, fun hlt => ?_⟩
  · unfold hdK
    rw [g0]; exact k1
  · obtain ⟨q, rfl⟩ : ∃ q, j = tot (L.take i) + q := ⟨j - tot (L.take i), by omega⟩
    have hq : q < (L[i]).2.length := by omega
    obtain ⟨o1, o2⟩ := okC_mem (ok (ne hq)) q hq
    refine ⟨by rw [kq q hq]; exact o1, by rw [kq q hq]; exact (gc q hq).1, ?_⟩
    unfold xx
    rw [(gc q hq).2]; exact o2
  · have hq : mm < (L[i]).2.length := by omega
    obtain ⟨tt, e1, e2⟩ := ty_codes kq (ok (ne hq)) mm (by omega)
    have := (okC_len e2).1
    exact ⟨tt, e1, by omega⟩
  · have hq : 0 < (L[i]).2.length := by omega
    obtain ⟨tt, e1, e2⟩ := ty_codes kq (ok (ne hq)) (L[i]).2.length (Nat.le_refl _)
    rw [List.drop_length] at e2
    rw [show tot (L.take (i + 1)) - tot (L.take i) = (L[i]).2.length by omega, e1, ← e2.2]
theorem text_LC {h : mH} {a : Nat} {W V : WD} {L : List LN} {us : Int32} {K F E D : Nat → Int32} (hk : ∀ x ∈ L, lnK x) (h12 : L.length ≤ 12) (h400 : tot L ≤ 400) (ln : LnM V 0 0 L) (e : ∀ j, 428 ≤ j → j < 1264 → W j = V (j + 837)) (S : LSh h a (nI L.length) us K F E D) (lc : LnC K F E D 0 0 L) : LC h a W L.length (fun i => tot (L.take i)) := by
  refine ⟨us, K, F, E, D, S.1, S.2.1, S.2.2.1, S.2.2.2.1, S.2.2.2.2, fun i hi => ?_, fun j hj => ?_⟩
  · obtain ⟨a1, -⟩ := LnM_i L ln i hi
    obtain ⟨b1, b2⟩ := LnC_i L lc i hi
    have g0 : W (428 + 3 * i) = (L[i]).1 := by rw [e _ (by omega) (by omega), show 428 + 3 * i + 837 = 1265 + 3 * (0 + i) by omega]; exact a1
    rw [Nat.zero_add] at b1 b2
    rw [Nat.zero_add] at b1
    exact ⟨b1, by rw [g0]; exact b2⟩
  · have hj : j < tot L := by
      have : L.take L.length = L := List.take_length
      simp only [this] at hj
      exact hj
    have := codes_eq L hk lc ln j (Nat.zero_le _) (by omega)
    rw [this]
    unfold kk xx
    rw [e _ (by omega) (by omega), e _ (by omega) (by omega), show 464 + 2 * j + 837 = 1301 + 2 * j by omega, show 464 + 2 * j + 1 + 837 = 1301 + 2 * j + 1 by omega]
