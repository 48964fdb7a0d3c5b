/-! Parades: the way back from the end -/
theorem addm1 (x : Int32) : x + (-1) = x - 1 := (Int32.sub_eq_add_neg x 1).symm
def coS (w g : Nat) (hd : Nat → Int32) (to n : Nat) : Nat → Int32
  | 0 => shl1 to
  | k + 1 => arS w g (coS w g hd to n k) &&& hd (n - 1 - k)
def fsS (w g : Nat) (s : Int32) (p : Nat) : Option Nat := (fd (fun k => obt s (bes w g p k)) 4).elim none (fun k => bes w g p k)
def stp (w g : Nat) (s : Int32) (p : Nat) : Nat := if bt s p = true then p else (fsS w g s p).elim p id
def paS (w g : Nat) (hd : Nat → Int32) (fr to n : Nat) : Nat → Nat
  | 0 => fr
  | t + 1 => stp w g (coS w g hd to n (n - (t + 1))) (paS w g hd fr to n t)
theorem fsS_some {w g : Nat} {s : Int32} {p : Nat} (h : nb w g s p = true) : ∃ k q, fd (fun k => obt s (bes w g p k)) 4 = some k ∧ bes w g p k = some q ∧ bt s q = true ∧ k < 4 ∧ fsS w g s p = some q := by
  rw [nb_iff] at h
  obtain ⟨k, q, hk, e, b⟩ := h
  cases hf : fd (fun k => obt s (bes w g p k)) 4 with
  | none =>
    have := fd_none hf k hk
    simp only [e, obt] at this
    rw [this] at b; cases b
  | some j =>
    obtain ⟨a1, a2, -⟩ := fd_some hf
    cases e2 : bes w g p j with
    | none => simp only [e2, obt] at a2; cases a2
    | some r =>
      simp only [e2, obt] at a2
      exact ⟨j, r, rfl, e2, a2, a1, by unfold fsS; rw [hf]; exact e2⟩
section Co
variable {w g : Nat} {hd : Nat → Int32} {fr to n : Nat}
theorem sub_co (hs : ∀ t, sub (w * g) (hd t)) (hto : to < w * g) (hN : w * g ≤ 30) : ∀ k, sub (w * g) (coS w g hd to n k)
  | 0 => sub_shl hto (by omega)
  | k + 1 => sub_and' (hs _)
theorem co_meet (hw : w < 7) (hg : g < 6) (h1 : 1 ≤ w) (hN : w * g ≤ 30) (hs : ∀ t, sub (w * g) (hd t)) (hto : to < w * g) (hn : bt (rcS w g hd fr n) to = true) : ∀ k, k ≤ n → ∃ y, y < w * g ∧ bt (rcS w g hd fr (n - k)) y = true ∧ bt (coS w g hd to n k) y = true
  | 0, _ => ⟨to, hto, hn, by rw [coS, bt_shl1 (by omega) (by omega)]; simp⟩
  | k + 1, hk => by
    obtain ⟨x, hx, r1, c1⟩ := co_meet hw hg h1 hN hs hto hn k (by omega)
    obtain ⟨t, ht⟩ : ∃ t, n - k = t + 1 := ⟨n - k - 1, by omega⟩
    have e1 : n - (k + 1) = t := by omega
    have e2 : n - 1 - k = t := by omega
    rw [ht, rcS, b_and, Bool.and_eq_true, bt_ar hw hg h1 hN (sub_rc hs t) (by omega), Bool.or_eq_true] at r1
    rw [e1]
    have inhd : ∀ y, y < 32 → bt (rcS w g hd fr t) y = true → bt (hd t) y = true := fun y hy h => by
      cases t with
      | zero => rw [rcS, b_and, Bool.and_eq_true] at h; exact h.1
      | succ t => rw [rcS, b_and, Bool.and_eq_true] at h; exact h.2
    rcases r1.1 with h | h
    · refine ⟨x, hx, h, ?_⟩
      rw [coS, b_and, bt_ar hw hg h1 hN (sub_co hs hto hN k) (by omega), c1, e2, inhd x (by omega) h]
      rfl
    · rw [Bool.and_eq_true, nb_iff] at h
      obtain ⟨-, j, y, hj, ey, by'⟩ := h
      have hy := bes_lt h1 hx ey
      refine ⟨y, hy, by', ?_⟩
      rw [coS, b_and, bt_ar hw hg h1 hN (sub_co hs hto hN k) (by omega), e2, inhd y (by omega) by']
      have : nb w g (coS w g hd to n k) y = true := nb_iff.mpr ⟨opp j, x, opp_lt hj, bes_opp hw hg (by omega) hj h1 hx ey, c1⟩
      rw [this, decide_eq_true hy]
      simp
theorem co_from (hw : w < 7) (hg : g < 6) (h1 : 1 ≤ w) (hN : w * g ≤ 30) (hs : ∀ t, sub (w * g) (hd t)) (hto : to < w * g) (hfr : fr < w * g) (hn : bt (rcS w g hd fr n) to = true) : bt (coS w g hd to n n) fr = true := by
  obtain ⟨y, hy, r, c⟩ := co_meet hw hg h1 hN hs hto hn n (Nat.le_refl _)
  rw [Nat.sub_self, rcS, b_and, Bool.and_eq_true, bt_shl1 (by omega) (by omega), decide_eq_true_eq] at r
  rw [← r.2]; exact c
/-- from a pane of a set on the way there is a step -/
theorem stp_in (hw : w < 7) (hg : g < 6) (h1 : 1 ≤ w) (hN : w * g ≤ 30) (hs : ∀ t, sub (w * g) (hd t)) (hto : to < w * g) {k p : Nat} (hp : p < w * g) (h : bt (coS w g hd to n (k + 1)) p = true) : stp w g (coS w g hd to n k) p < w * g ∧ bt (coS w g hd to n k) (stp w g (coS w g hd to n k) p) = true ∧ (bt (coS w g hd to n k) p = true ∨ nb w g (coS w g hd to n k) p = true) := by
  rw [coS, b_and, Bool.and_eq_true, bt_ar hw hg h1 hN (sub_co hs hto hN k) (by omega), Bool.or_eq_true, Bool.and_eq_true] at h
  unfold stp
  by_cases c : bt (coS w g hd to n k) p = true
  · rw [if_pos c]
    exact ⟨hp, c, .inl c⟩
  · rw [if_neg c]
    have nbt : nb w g (coS w g hd to n k) p = true := by
      rcases h.1 with z | z
      · exact absurd z c
      · exact z.2
    obtain ⟨j, q, -, eq, bq, hj, ef⟩ := fsS_some nbt
    rw [ef]
    exact ⟨bes_lt h1 hp eq, bq, .inr nbt⟩
theorem pa_in (hw : w < 7) (hg : g < 6) (h1 : 1 ≤ w) (hN : w * g ≤ 30) (hs : ∀ t, sub (w * g) (hd t)) (hto : to < w * g) (hfr : fr < w * g) (hn : bt (rcS w g hd fr n) to = true) : ∀ t, t ≤ n → paS w g hd fr to n t < w * g ∧ bt (coS w g hd to n (n - t)) (paS w g hd fr to n t) = true
  | 0, _ => ⟨hfr, co_from hw hg h1 hN hs hto hfr hn⟩
  | t + 1, ht => by
    obtain ⟨a, b⟩ := pa_in hw hg h1 hN hs hto hfr hn t (by omega)
    have e : n - t = (n - (t + 1)) + 1 := by omega
    rw [e] at b
    have := stp_in hw hg h1 hN hs hto a b
    exact ⟨this.1, this.2.1⟩
end Co
section Step
variable {h : mH} {a : Nat} {W : WD}
theorem firstStep_ev (O : mO) (d : Nat) (H : CA h a W) (R : rng W) {p : Nat} (hp : p < pN W) (s : Int32) : ev O (d + 1) 97 0 [.ref a, .int (nI p), .int s, mJ, mJ] [] h = some (.inl (some (.int (nI (stp (wN W) (gN W) s p)))), h) := by
  have hN := pN_le R
  unfold stp
  cases c : bt s p
  · have e := fd_runV (ν := Value) (c := fun k => obt s (bes (wN W) (gN W) p k)) (n := 4) (F := fun k v => ev O (d + 1) 97 12 [.ref a, .int (nI p), .int s, .int (nI k), v] [] h) (r := fun k => some (.inl (some (.int (oI (bes (wN W) (gN W) p k)))), h)) (fun k v hk => by
      have h3 : ¬ (4 : Int32) ≤ nI k := nI_ge (b := 4) hk (by omega)
      rw [e_97_12]
      cases e : bes (wN W) (gN W) p k with
      | none =>
        refine ⟨fun q => (by cases q), fun _ => ?_⟩
        simp only [e_97_0, e_97_1, e_97_2, e_97_3, e_97_4, e_97_5, e_97_8, e_97_9, e_97_10, e_97_11, e_97_13, e_97_14, e_97_17, e_97_18, e_97_19, e_97_20, e_97_23, e_97_25, e_97_27, e_97_28, e_97_31, e_97_32, e_97_34, e_97_35, e_97_36, e_97_37, e_97_40, e_97_42, e_97_43, e_97_46, e_97_49, e_97_50, Option.bind_some, Option.bind_none, m_kt, m_kn, Option.toList_some, Option.toList_none, List.nil_append, List.cons_append, List.append_nil, ltn, ite_not, ↓reduceIte, true_or, or_true, nP1, oI_s, oI_n, bI_f, bI_t, i1_0, i0_0, Bool.false_eq_true, not_true_eq_false, not_false_eq_true, h3, H.isc, beside_ev O d H R hp hk, e]
        exact ⟨_, rfl⟩
      | some q =>
        have hq : q < pN W := bes_lt R.1.1.2.1 hp e
        refine ⟨fun hc => ?_, fun hc => ?_⟩
        · have hc : bt s q = true := hc
          simp only [e_97_0, e_97_1, e_97_2, e_97_3, e_97_4, e_97_5, e_97_8, e_97_9, e_97_10, e_97_11, e_97_13, e_97_14, e_97_17, e_97_18, e_97_19, e_97_20, e_97_23, e_97_25, e_97_27, e_97_28, e_97_31, e_97_32, e_97_34, e_97_35, e_97_36, e_97_37, e_97_40, e_97_42, e_97_43, e_97_46, e_97_49, e_97_50, Option.bind_some, Option.bind_none, m_kt, m_kn, Option.toList_some, Option.toList_none, List.nil_append, List.cons_append, List.append_nil, ltn, ite_not, ↓reduceIte, true_or, or_true, nP1, oI_s, oI_n, bI_f, bI_t, i1_0, i0_0, Bool.false_eq_true, not_true_eq_false, not_false_eq_true, h3, H.isc, beside_ev O d H R hp hk, e, nm1 (show q < 2 ^ 31 by omega), has_t s (show q < 32 by omega), hc]
        · have hc : bt s q = false := hc
          simp only [e_97_0, e_97_1, e_97_2, e_97_3, e_97_4, e_97_5, e_97_8, e_97_9, e_97_10, e_97_11, e_97_13, e_97_14, e_97_17, e_97_18, e_97_19, e_97_20, e_97_23, e_97_25, e_97_27, e_97_28, e_97_31, e_97_32, e_97_34, e_97_35, e_97_36, e_97_37, e_97_40, e_97_42, e_97_43, e_97_46, e_97_49, e_97_50, Option.bind_some, Option.bind_none, m_kt, m_kn, Option.toList_some, Option.toList_none, List.nil_append, List.cons_append, List.append_nil, ltn, ite_not, ↓reduceIte, true_or, or_true, nP1, oI_s, oI_n, bI_f, bI_t, i1_0, i0_0, Bool.false_eq_true, not_true_eq_false, not_false_eq_true, h3, H.isc, beside_ev O d H R hp hk, e, nm1 (show q < 2 ^ 31 by omega), has_t s (show q < 32 by omega), hc]
          exact ⟨_, rfl⟩) mJ
    simp only [e_97_0, e_97_1, e_97_2, e_97_3, e_97_4, e_97_5, e_97_8, e_97_9, e_97_10, e_97_11, e_97_13, e_97_14, e_97_17, e_97_18, e_97_19, e_97_20, e_97_23, e_97_25, e_97_27, e_97_28, e_97_31, e_97_32, e_97_34, e_97_35, e_97_36, e_97_37, e_97_40, e_97_42, e_97_43, e_97_46, e_97_49, e_97_50, Option.bind_some, Option.bind_none, m_kt, m_kn, Option.toList_some, Option.toList_none, List.nil_append, List.cons_append, List.append_nil, ltn, ite_not, ↓reduceIte, true_or, or_true, nP1, oI_s, oI_n, bI_f, bI_t, i1_0, i0_0, Bool.false_eq_true, not_true_eq_false, not_false_eq_true, has_t s (show p < 32 by omega), c]
    simp only [nI_0] at e
    unfold fsS
    rcases e with ⟨k, ek, e⟩ | ⟨en, v, e⟩
    · rw [ek, e]
      obtain ⟨-, q, -⟩ := fd_some ek
      simp only [Option.elim_some]
      cases e2 : bes (wN W) (gN W) p k with
      | none => simp only [e2, obt] at q; cases q
      | some r => rfl
    · rw [en, e, e_97_12]
      simp only [e_97_0, e_97_1, e_97_2, e_97_3, e_97_4, e_97_5, e_97_8, e_97_9, e_97_10, e_97_11, e_97_13, e_97_14, e_97_17, e_97_18, e_97_19, e_97_20, e_97_23, e_97_25, e_97_27, e_97_28, e_97_31, e_97_32, e_97_34, e_97_35, e_97_36, e_97_37, e_97_40, e_97_42, e_97_43, e_97_46, e_97_49, e_97_50, Option.bind_some, Option.bind_none, m_kt, m_kn, Option.toList_some, Option.toList_none, List.nil_append, List.cons_append, List.append_nil, ltn, ite_not, ↓reduceIte, true_or, or_true, nP1, oI_s, oI_n, bI_f, bI_t, i1_0, i0_0, Bool.false_eq_true, not_true_eq_false, not_false_eq_true, (show ((4 : Int32) ≤ nI 4) = True by decide)]
      rfl
  · simp only [e_97_0, e_97_1, e_97_2, e_97_3, e_97_4, e_97_5, e_97_8, e_97_9, e_97_10, e_97_11, e_97_13, e_97_14, e_97_17, e_97_18, e_97_19, e_97_20, e_97_23, e_97_25, e_97_27, e_97_28, e_97_31, e_97_32, e_97_34, e_97_35, e_97_36, e_97_37, e_97_40, e_97_42, e_97_43, e_97_46, e_97_49, e_97_50, Option.bind_some, Option.bind_none, m_kt, m_kn, Option.toList_some, Option.toList_none, List.nil_append, List.cons_append, List.append_nil, ltn, ite_not, ↓reduceIte, true_or, or_true, nP1, oI_s, oI_n, bI_f, bI_t, i1_0, i0_0, Bool.false_eq_true, not_true_eq_false, not_false_eq_true, has_t s (show p < 32 by omega), c]
def hD (h : mH) (v : Nat → Int32) : mH := (h.1.set 62 (aI 49 v), h.2)
theorem paneBehind_ev (O : mO) (d : Nat) (H : CA h a W) (ha : a < 28) (R : rng W) {fr to st : Nat} {L B BT OP OT : Nat → Int32} (K : WK h (nI fr) (nI to) (nI st) L B BT OP OT) (hfr : fr < pN W) (hto : to < pN W) (hst : st < 24) {wt : Int32} (hop : ∀ hh, hh < 24 → OP hh = hdS W (nI hh) wt) {k n : Nat} (hk : k ≤ n) (hn : n ≤ 48) (hfd : bt (rcS (wN W) (gN W) (hdT W st wt) fr n) to = true) : ∃ v, ev O (d + 2) 96 0 [.ref 56, .ref a, .int (nI k), .int (nI n), mJ, mJ] [] h = some (.inl (some (.int (nI (paS (wN W) (gN W) (hdT W st wt) fr to n k)))), hD h v) := by
  have hN := pN_le R
  have hw := R.1.1.2
  have hg := R.1.2.1.2
  have hs : ∀ t, sub (wN W * gN W) (hdT W st wt t) := fun t => sub_hd W R _ _
  obtain ⟨e6, e7, e8, e9, e10, e11, LD, e12⟩ := K
  have F : ∀ v, out WS h (hD h v) := fun v => out.st h _ (by unfold WS; omega)
  have H1 : ∀ v, CA (hD h v) a W := fun v => CA_ws H ha (F v)
  have g6 : ∀ v, (hD h v).1[56]? = some (oWk (nI fr) (nI to) (nI st)) := fun v => (hne (by decide)).trans e6
  have g10 : ∀ v, (hD h v).1[60]? = some (aI 24 OP) := fun v => (hne (by decide)).trans e10
  have g12 : ∀ v, (hD h v).1[62]? = some (aI 49 v) := fun v => hget e12
  have s12 : ∀ v i x, i < 49 → m_si (hD h v) 62 (nI i) x = some (hD h (upd v i x)) := fun v i x hi => by
    rw [si_n (g12 v) hi (by decide)]
    unfold hD
    rw [List.set_set]
  -- the sets, from the end
  have key : ∀ j, j ≤ n → ∀ v x, (∀ i, i ≤ n → n - j ≤ i → v i = coS (wN W) (gN W) (hdT W st wt) to n (n - i)) → ∃ v' x', (∀ i, i ≤ n → v' i = coS (wN W) (gN W) (hdT W st wt) to n (n - i)) ∧ ev O (d + 2) 96 17 [.ref 56, .ref a, .int (nI k), .int (nI n), .int (nI (n - j) - 1), x] [] (hD h v) = ev O (d + 2) 96 71 [.ref 56, .ref a, .int (nI k), .int (nI n), .int (-1), x'] [] (hD h v') := by
    intro j hj
    have : ∀ i v x, n - j = i → (∀ i, i ≤ n → n - j ≤ i → v i = coS (wN W) (gN W) (hdT W st wt) to n (n - i)) → ∃ v' x', (∀ i, i ≤ n → v' i = coS (wN W) (gN W) (hdT W st wt) to n (n - i)) ∧ ev O (d + 2) 96 17 [.ref 56, .ref a, .int (nI k), .int (nI n), .int (nI (n - j) - 1), x] [] (hD h v) = ev O (d + 2) 96 71 [.ref 56, .ref a, .int (nI k), .int (nI n), .int (-1), x'] [] (hD h v') := by
      intro i
      induction i generalizing j with
      | zero =>
        intro v x e0 I
        refine ⟨v, x, fun i hi => I i hi (by omega), ?_⟩
        rw [e0, show nI 0 - 1 = -1 from by decide, e_96_17]
        simp only [e_96_0, e_96_1, e_96_4, e_96_5, e_96_6, e_96_7, e_96_10, e_96_11, e_96_12, e_96_13, e_96_14, e_96_15, e_96_19, e_96_22, e_96_23, e_96_26, e_96_28, e_96_29, e_96_30, e_96_31, e_96_33, e_96_34, e_96_37, e_96_39, e_96_41, e_96_42, e_96_44, e_96_47, e_96_48, e_96_49, e_96_52, e_96_53, e_96_56, e_96_58, e_96_59, e_96_61, e_96_62, e_96_63, e_96_64, e_96_65, e_96_68, e_96_72, e_96_75, e_96_77, e_96_78, e_96_80, e_96_82, e_96_83, e_96_86, e_96_88, e_96_89, e_96_92, e_96_93, e_96_95, e_96_96, e_96_99, e_96_101, e_96_102, e_96_105, e_96_107, e_96_110, e_96_113, e_96_115, Option.bind_some, Option.bind_none, m_kt, m_kn, Option.toList_some, Option.toList_none, List.nil_append, List.cons_append, List.append_nil, ltn, ite_not, ↓reduceIte, true_or, or_true, nP1, oI_s, oI_n, bI_f, bI_t, i1_0, i0_0, Bool.false_eq_true, not_true_eq_false, not_false_eq_true, m1_0]
      | succ i ih =>
        intro v x e0 I
        have z : 0 ≤ nI i := nI_pos' (by omega)
        have vi := I (i + 1) (by omega) (by omega)
        have em : nI st + nI i - (nI st + nI i) / 24 * 24 = nI ((st + i) % 24) := by
          rw [nA]; exact pk_rem (d := 24) (by omega) (by omega) (by omega)
        have em' : nI (st + i) - nI (st + i) / 24 * 24 = nI ((st + i) % 24) := pk_rem (d := 24) (by omega) (by omega) (by omega)
        have ao := ai_n (g10 v) (show (st + i) % 24 < 24 by omega) (by decide)
        have cx : (coS (wN W) (gN W) (hdT W st wt) to n (n - (i + 1)) ||| abS (wN W) (gN W) (coS (wN W) (gN W) (hdT W st wt) to n (n - (i + 1)))) &&& hdS W (nI ((st + i) % 24)) wt = coS (wN W) (gN W) (hdT W st wt) to n (n - i) := by
          rw [show n - i = (n - (i + 1)) + 1 by omega, coS, show n - 1 - (n - (i + 1)) = i by omega]
          rfl
        obtain ⟨v', x', I', e⟩ := ih (j + 1) (by omega) (upd v i (coS (wN W) (gN W) (hdT W st wt) to n (n - i))) (.int (coS (wN W) (gN W) (hdT W st wt) to n (n - (i + 1)))) (by omega) (fun r hr1 hr2 => by
          by_cases c : r = i
          · subst c; exact pk_us
          · exact (pk_un c).trans (I r hr1 (by omega)))
        refine ⟨v', x', I', Eq.trans ?_ e⟩
        rw [e0, nI_pred, show n - (j + 1) = i by omega, e_96_17]
        simp only [e_96_0, e_96_1, e_96_4, e_96_5, e_96_6, e_96_7, e_96_10, e_96_11, e_96_12, e_96_13, e_96_14, e_96_15, e_96_19, e_96_22, e_96_23, e_96_26, e_96_28, e_96_29, e_96_30, e_96_31, e_96_33, e_96_34, e_96_37, e_96_39, e_96_41, e_96_42, e_96_44, e_96_47, e_96_48, e_96_49, e_96_52, e_96_53, e_96_56, e_96_58, e_96_59, e_96_61, e_96_62, e_96_63, e_96_64, e_96_65, e_96_68, e_96_72, e_96_75, e_96_77, e_96_78, e_96_80, e_96_82, e_96_83, e_96_86, e_96_88, e_96_89, e_96_92, e_96_93, e_96_95, e_96_96, e_96_99, e_96_101, e_96_102, e_96_105, e_96_107, e_96_110, e_96_113, e_96_115, Option.bind_some, Option.bind_none, m_kt, m_kn, Option.toList_some, Option.toList_none, List.nil_append, List.cons_append, List.append_nil, ltn, ite_not, ↓reduceIte, true_or, or_true, nP1, oI_s, oI_n, bI_f, bI_t, i1_0, i0_0, Bool.false_eq_true, not_true_eq_false, not_false_eq_true, z, gW8 (g6 v), gW6 (g6 v), gW2 (g6 v), ai_n (g12 v) (show i + 1 < 49 by omega) (by decide), vi, (H1 v).isc, allBeside_ev O (d + 1) (H1 v), nA, z24, em', ao, hop _ (show (st + i) % 24 < 24 by omega), cx, s12 v i _ (show i < 49 by omega), addm1]
    exact fun v x => this (n - j) v x rfl
  obtain ⟨v', x', I', e⟩ := key 0 (by omega) (upd LD n (shl1 to)) mJ (fun i h1 h2 => by
    have : i = n := by omega
    subst this
    rw [pk_us, Nat.sub_self]
    rfl)
  -- the steps
  have e2 := lp_run (F := fun t (_ : Unit) => ev O (d + 2) 96 80 [.ref 56, .ref a, .int (nI k), .int (nI n), .int (nI (paS (wN W) (gN W) (hdT W st wt) fr to n t)), .int (nI (t + 1))] [] (hD h v')) (f := fun _ s => s) (n := k) (fun t s ht => by
    have h1 : nI (t + 1) ≤ nI k := nI_le (by omega) (by omega)
    have h2 : nI (t + 1) ≤ nI n := nI_le (by omega) (by omega)
    obtain ⟨a1, a2⟩ := pa_in (by omega) (by omega) hw.1 hN hs hto hfr hfd t (by omega)
    rw [e_96_80]
    simp only [e_96_0, e_96_1, e_96_4, e_96_5, e_96_6, e_96_7, e_96_10, e_96_11, e_96_12, e_96_13, e_96_14, e_96_15, e_96_17, e_96_19, e_96_22, e_96_23, e_96_26, e_96_28, e_96_29, e_96_30, e_96_31, e_96_33, e_96_34, e_96_37, e_96_39, e_96_41, e_96_42, e_96_44, e_96_47, e_96_48, e_96_49, e_96_52, e_96_53, e_96_56, e_96_58, e_96_59, e_96_61, e_96_62, e_96_63, e_96_64, e_96_65, e_96_68, e_96_71, e_96_72, e_96_75, e_96_77, e_96_78, e_96_82, e_96_83, e_96_86, e_96_88, e_96_89, e_96_92, e_96_93, e_96_95, e_96_96, e_96_99, e_96_101, e_96_102, e_96_105, e_96_107, e_96_110, e_96_113, e_96_115, Option.bind_some, Option.bind_none, m_kt, m_kn, Option.toList_some, Option.toList_none, List.nil_append, List.cons_append, List.append_nil, ltn, ite_not, ↓reduceIte, true_or, or_true, nP1, oI_s, oI_n, bI_f, bI_t, i1_0, i0_0, Bool.false_eq_true, not_true_eq_false, not_false_eq_true, h1, h2, gW8 (g6 v'), ai_n (g12 v') (show t + 1 < 49 by omega) (by decide), I' (t + 1) (by omega), firstStep_ev O d (H1 v') R a1]
    rfl) ()
  refine ⟨v', ?_⟩
  have s0 : m_si h 62 (nI n) (shl1 to) = some (hD h (upd LD n (shl1 to))) := si_n e12 (by omega) (by decide) _
  simp only [Nat.sub_zero] at e
  simp only [e_96_0, e_96_1, e_96_4, e_96_5, e_96_6, e_96_7, e_96_10, e_96_11, e_96_12, e_96_13, e_96_14, e_96_15, e_96_19, e_96_22, e_96_23, e_96_26, e_96_28, e_96_29, e_96_30, e_96_31, e_96_33, e_96_34, e_96_37, e_96_39, e_96_41, e_96_42, e_96_44, e_96_47, e_96_48, e_96_49, e_96_52, e_96_53, e_96_56, e_96_58, e_96_59, e_96_61, e_96_62, e_96_63, e_96_64, e_96_65, e_96_68, e_96_72, e_96_75, e_96_77, e_96_78, e_96_82, e_96_83, e_96_86, e_96_88, e_96_89, e_96_92, e_96_93, e_96_95, e_96_96, e_96_99, e_96_101, e_96_102, e_96_105, e_96_107, e_96_110, e_96_113, e_96_115, Option.bind_some, Option.bind_none, m_kt, m_kn, Option.toList_some, Option.toList_none, List.nil_append, List.cons_append, List.append_nil, ltn, ite_not, ↓reduceIte, true_or, or_true, nP1, oI_s, oI_n, bI_f, bI_t, i1_0, i0_0, Bool.false_eq_true, not_true_eq_false, not_false_eq_true, gW8 e6, gW1 e6, shl_nI, s0]
  refine Eq.trans e ?_
  simp only [e_96_0, e_96_1, e_96_4, e_96_5, e_96_6, e_96_7, e_96_10, e_96_11, e_96_12, e_96_13, e_96_14, e_96_15, e_96_19, e_96_22, e_96_23, e_96_26, e_96_28, e_96_29, e_96_30, e_96_31, e_96_33, e_96_34, e_96_37, e_96_39, e_96_41, e_96_42, e_96_44, e_96_47, e_96_48, e_96_49, e_96_52, e_96_53, e_96_56, e_96_58, e_96_59, e_96_61, e_96_62, e_96_63, e_96_64, e_96_65, e_96_68, e_96_71, e_96_72, e_96_75, e_96_77, e_96_78, e_96_82, e_96_83, e_96_86, e_96_88, e_96_89, e_96_92, e_96_93, e_96_95, e_96_96, e_96_99, e_96_101, e_96_102, e_96_105, e_96_107, e_96_110, e_96_113, e_96_115, Option.bind_some, Option.bind_none, m_kt, m_kn, Option.toList_some, Option.toList_none, List.nil_append, List.cons_append, List.append_nil, ltn, ite_not, ↓reduceIte, true_or, or_true, nP1, oI_s, oI_n, bI_f, bI_t, i1_0, i0_0, Bool.false_eq_true, not_true_eq_false, not_false_eq_true, gW0 (g6 v')]
  refine Eq.trans e2 ?_
  have h3 : ¬ nI (k + 1) ≤ nI k := nI_ge (by omega) (by omega)
  rw [e_96_80]
  simp only [e_96_0, e_96_1, e_96_4, e_96_5, e_96_6, e_96_7, e_96_10, e_96_11, e_96_12, e_96_13, e_96_14, e_96_15, e_96_19, e_96_22, e_96_23, e_96_26, e_96_28, e_96_29, e_96_30, e_96_31, e_96_33, e_96_34, e_96_37, e_96_39, e_96_41, e_96_42, e_96_44, e_96_47, e_96_48, e_96_49, e_96_52, e_96_53, e_96_56, e_96_58, e_96_59, e_96_61, e_96_62, e_96_63, e_96_64, e_96_65, e_96_68, e_96_71, e_96_72, e_96_75, e_96_77, e_96_78, e_96_82, e_96_83, e_96_86, e_96_88, e_96_89, e_96_92, e_96_93, e_96_95, e_96_96, e_96_99, e_96_101, e_96_102, e_96_105, e_96_107, e_96_110, e_96_113, e_96_115, Option.bind_some, Option.bind_none, m_kt, m_kn, Option.toList_some, Option.toList_none, List.nil_append, List.cons_append, List.append_nil, ltn, ite_not, ↓reduceIte, true_or, or_true, nP1, oI_s, oI_n, bI_f, bI_t, i1_0, i0_0, Bool.false_eq_true, not_true_eq_false, not_false_eq_true, h3]
end Step
/-! The reference's parade -/
def hE (h : mH) (v : Nat → Int32) : mH := (h.1.set 78 (aI 49 v), h.2)
def paraV (W : WD) (x y z u k : Int32) : Int32 := (hoS (wN W) (gN W) (hdT W z.toNatClampNeg u) x.toNatClampNeg y.toNatClampNeg).elim (-1) (fun n => if k = -1 then nI n else if nI n < k then -1 else nI (paS (wN W) (gN W) (hdT W z.toNatClampNeg u) x.toNatClampNeg y.toNatClampNeg n k.toNatClampNeg))
theorem hoS_at {w g : Nat} {hd : Nat → Int32} {fr to n : Nat} (h : hoS w g hd fr to = some n) : n ≤ 48 ∧ bt (rcS w g hd fr n) to = true := by
  obtain ⟨a, b, -⟩ := fd_some h
  exact ⟨by omega, b⟩
section MParade
variable {h : mH} {m : Nat → Int32} {W : WD}
theorem mpar_a (O : mO) (d : Nat) (H : MS h m W) (R : rng W) {fr to st : Nat} (hfr : fr < pN W) (hto : to < pN W) (hst : st < 24) {wt : Int32} {v0 : Nat → Int32} (e8 : h.1[78]? = some (aI 49 v0)) {k n : Nat} (hk : k ≤ n) (hn : n ≤ 48) (hfd : bt (rcS (wN W) (gN W) (hdT W st wt) fr n) to = true) : ∃ v, ev O (d + 5) 233 116 [.ref 66, .int (nI fr), .int (nI to), .int (nI st), .int wt, .int (nI k), .int (nI n), mJ, mJ, mJ, mJ] [] h = some (.inl (some (.int (nI (paS (wN W) (gN W) (hdT W st wt) fr to n k)))), hE h v) := by
  have hN := pN_le R
  have hw := R.1.1.2
  have hg := R.1.2.1.2
  have hs : ∀ t, sub (wN W * gN W) (hdT W st wt t) := fun t => sub_hd W R _ _
  have F : ∀ v, out (fun b => b = 78) h (hE h v) := fun v => out.st h _ rfl
  have H1 : ∀ v, MS (hE h v) m W := fun v => H.out (F v) (by decide) (by decide)
  have g12 : ∀ v, (hE h v).1[78]? = some (aI 49 v) := fun v => hget e8
  have s12 : ∀ v i x, i < 49 → m_si (hE h v) 78 (nI i) x = some (hE h (upd v i x)) := fun v i x hi => by
    rw [si_n (g12 v) hi (by decide)]
    unfold hE
    rw [List.set_set]
  have key : ∀ i j v, n - j = i → j ≤ n → (∀ i, i ≤ n → n - j ≤ i → v i = coS (wN W) (gN W) (hdT W st wt) to n (n - i)) → ∃ v', (∀ i, i ≤ n → v' i = coS (wN W) (gN W) (hdT W st wt) to n (n - i)) ∧ ev O (d + 5) 233 132 [.ref 66, .int (nI fr), .int (nI to), .int (nI st), .int wt, .int (nI k), .int (nI n), .int (nI (n - j) - 1), mJ, mJ, mJ] [] (hE h v) = ev O (d + 5) 233 174 [.ref 66, .int (nI fr), .int (nI to), .int (nI st), .int wt, .int (nI k), .int (nI n), .int (-1), mJ, mJ, mJ] [] (hE h v') := by
    intro i
    induction i with
    | zero =>
      intro j v e0 hj I
      refine ⟨v, fun i hi => I i hi (by omega), ?_⟩
      rw [e0, show nI 0 - 1 = -1 from by decide, e_233_132]
      simp only [e_233_0, e_233_1, e_233_2, e_233_5, e_233_6, e_233_7, e_233_8, e_233_11, e_233_14, e_233_15, e_233_16, e_233_19, e_233_22, e_233_23, e_233_26, e_233_29, e_233_30, e_233_33, e_233_34, e_233_35, e_233_38, e_233_41, e_233_42, e_233_44, e_233_45, e_233_48, e_233_51, e_233_54, e_233_56, e_233_57, e_233_60, e_233_61, e_233_64, e_233_65, e_233_66, e_233_69, e_233_72, e_233_73, e_233_74, e_233_75, e_233_76, e_233_77, e_233_78, e_233_80, e_233_83, e_233_85, e_233_87, e_233_88, e_233_91, e_233_93, e_233_96, e_233_98, e_233_100, e_233_103, e_233_105, e_233_106, e_233_109, e_233_111, e_233_114, e_233_115, e_233_116, e_233_117, e_233_120, e_233_122, e_233_123, e_233_124, e_233_125, e_233_126, e_233_128, e_233_129, e_233_130, e_233_134, e_233_137, e_233_138, e_233_141, e_233_143, e_233_144, e_233_145, e_233_148, e_233_150, e_233_151, e_233_152, e_233_153, e_233_156, e_233_157, e_233_158, e_233_160, e_233_161, e_233_163, e_233_166, e_233_167, e_233_168, e_233_171, e_233_175, e_233_177, e_233_178, e_233_180, e_233_182, e_233_184, e_233_187, e_233_188, e_233_191, e_233_193, e_233_194, e_233_196, e_233_199, e_233_202, e_233_204, e_233_207, e_233_208, e_233_210, e_233_211, e_233_213, e_233_215, e_233_216, e_233_219, e_233_221, e_233_224, e_233_225, e_233_227, e_233_229, e_233_232, e_233_235, e_233_236, e_233_239, e_233_241, e_233_242, e_233_243, e_233_245, e_233_247, e_233_250, e_233_253, e_233_256, e_233_257, e_233_259, e_233_261, e_233_264, e_233_267, e_233_268, e_233_270, e_233_273, e_233_276, e_233_278, e_233_280, e_233_283, e_233_286, e_233_288, Option.bind_some, Option.bind_none, m_kt, m_kn, Option.toList_some, Option.toList_none, List.nil_append, List.cons_append, List.append_nil, ltn, ite_not, ↓reduceIte, true_or, or_true, nP1, oI_s, oI_n, bI_f, bI_t, i1_0, i0_0, Bool.false_eq_true, not_true_eq_false, not_false_eq_true, m1_0]
    | succ i ih =>
      intro j v e0 hj I
      have z : 0 ≤ nI i := nI_pos' (by omega)
      have vi := I (i + 1) (by omega) (by omega)
      have ea := around_ev O (d + 2) (H1 v).w R (sub_co (w := wN W) (g := gN W) (n := n) hs hto hN (n - (i + 1)))
      have eh := held_ev O d (H1 v).w R (show st + i < 2 ^ 20 by omega) wt
      have cx : arS (wN W) (gN W) (coS (wN W) (gN W) (hdT W st wt) to n (n - (i + 1))) &&& hdS W (nI ((st + i) % 24)) wt = coS (wN W) (gN W) (hdT W st wt) to n (n - i) := by
        rw [show n - i = (n - (i + 1)) + 1 by omega, coS, show n - 1 - (n - (i + 1)) = i by omega]
        rfl
      obtain ⟨v', I', e⟩ := ih (j + 1) (upd v i (coS (wN W) (gN W) (hdT W st wt) to n (n - i))) (by omega) (by omega) (fun r hr1 hr2 => by
        by_cases c : r = i
        · subst c; exact pk_us
        · exact (pk_un c).trans (I r hr1 (by omega)))
      refine ⟨v', I', Eq.trans ?_ e⟩
      rw [e0, nI_pred, show n - (j + 1) = i by omega, e_233_132]
      simp only [e_233_0, e_233_1, e_233_2, e_233_5, e_233_6, e_233_7, e_233_8, e_233_11, e_233_14, e_233_15, e_233_16, e_233_19, e_233_22, e_233_23, e_233_26, e_233_29, e_233_30, e_233_33, e_233_34, e_233_35, e_233_38, e_233_41, e_233_42, e_233_44, e_233_45, e_233_48, e_233_51, e_233_54, e_233_56, e_233_57, e_233_60, e_233_61, e_233_64, e_233_65, e_233_66, e_233_69, e_233_72, e_233_73, e_233_74, e_233_75, e_233_76, e_233_77, e_233_78, e_233_80, e_233_83, e_233_85, e_233_87, e_233_88, e_233_91, e_233_93, e_233_96, e_233_98, e_233_100, e_233_103, e_233_105, e_233_106, e_233_109, e_233_111, e_233_114, e_233_115, e_233_116, e_233_117, e_233_120, e_233_122, e_233_123, e_233_124, e_233_125, e_233_126, e_233_128, e_233_129, e_233_130, e_233_134, e_233_137, e_233_138, e_233_141, e_233_143, e_233_144, e_233_145, e_233_148, e_233_150, e_233_151, e_233_152, e_233_153, e_233_156, e_233_157, e_233_158, e_233_160, e_233_161, e_233_163, e_233_166, e_233_167, e_233_168, e_233_171, e_233_175, e_233_177, e_233_178, e_233_180, e_233_182, e_233_184, e_233_187, e_233_188, e_233_191, e_233_193, e_233_194, e_233_196, e_233_199, e_233_202, e_233_204, e_233_207, e_233_208, e_233_210, e_233_211, e_233_213, e_233_215, e_233_216, e_233_219, e_233_221, e_233_224, e_233_225, e_233_227, e_233_229, e_233_232, e_233_235, e_233_236, e_233_239, e_233_241, e_233_242, e_233_243, e_233_245, e_233_247, e_233_250, e_233_253, e_233_256, e_233_257, e_233_259, e_233_261, e_233_264, e_233_267, e_233_268, e_233_270, e_233_273, e_233_276, e_233_278, e_233_280, e_233_283, e_233_286, e_233_288, Option.bind_some, Option.bind_none, m_kt, m_kn, Option.toList_some, Option.toList_none, List.nil_append, List.cons_append, List.append_nil, ltn, ite_not, ↓reduceIte, true_or, or_true, nP1, oI_s, oI_n, bI_f, bI_t, i1_0, i0_0, Bool.false_eq_true, not_true_eq_false, not_false_eq_true, z, gM22 (H1 v).1, ai_n (g12 v) (show i + 1 < 49 by omega) (by decide), vi, (H1 v).isc, ea, nA, eh, cx, s12 v i _ (show i < 49 by omega), addm1]
  obtain ⟨v', I', e⟩ := key n 0 (upd v0 n (shl1 to)) (by omega) (by omega) (fun i h1 h2 => by
    have : i = n := by omega
    subst this
    rw [pk_us, Nat.sub_self]
    rfl)
  have e2 := lp_runV (ν := Value × Value) (F := fun t (_ : Unit) v => ev O (d + 5) 233 180 [.ref 66, .int (nI fr), .int (nI to), .int (nI st), .int wt, .int (nI k), .int (nI n), .int (nI (paS (wN W) (gN W) (hdT W st wt) fr to n t)), .int (nI (t + 1)), v.1, v.2] [] (hE h v')) (f := fun _ s => s) (n := k) (fun t s v ht => by
    have h1 : nI (t + 1) ≤ nI k := nI_le (by omega) (by omega)
    obtain ⟨a1, a2⟩ := pa_in (by omega) (by omega) hw.1 hN hs hto hfr hfd t (by omega)
    rw [show n - t = (n - (t + 1)) + 1 by omega] at a2
    obtain ⟨b1, b2, b3⟩ := stp_in (by omega) (by omega) hw.1 hN hs hto a1 a2
    have ec := I' (t + 1) (by omega)
    rw [e_233_180, paS]
    generalize paS (wN W) (gN W) (hdT W st wt) fr to n t = p at *
    have hp : p < pN W := a1
    have hac := ai_n (g12 v') (show t + 1 < 49 by omega) (by decide)
    rw [ec] at hac
    generalize coS (wN W) (gN W) (hdT W st wt) to n (n - (t + 1)) = s at *
    have hdone : ∀ (q : Nat) (x : Value) (j : Nat), q < 30 → j < 5 → ev O (d + 5) 233 213 [.ref 66, .int (nI fr), .int (nI to), .int (nI st), .int wt, .int (nI k), .int (nI n), .int (nI p), .int (nI (t + 1)), .int (nI q), .int (nI j)] [] (hE h v') = ev O (d + 5) 233 180 [.ref 66, .int (nI fr), .int (nI to), .int (nI st), .int wt, .int (nI k), .int (nI n), .int (nI q), .int (nI (t + 1 + 1)), .int (nI q), .int (nI j)] [] (hE h v') := fun q x j hq hj => by
      rw [e_233_213]
      by_cases c : (4 : Int32) ≤ nI j <;> simp only [e_233_0, e_233_1, e_233_2, e_233_5, e_233_6, e_233_7, e_233_8, e_233_11, e_233_14, e_233_15, e_233_16, e_233_19, e_233_22, e_233_23, e_233_26, e_233_29, e_233_30, e_233_33, e_233_34, e_233_35, e_233_38, e_233_41, e_233_42, e_233_44, e_233_45, e_233_48, e_233_51, e_233_54, e_233_56, e_233_57, e_233_60, e_233_61, e_233_64, e_233_65, e_233_66, e_233_69, e_233_72, e_233_73, e_233_74, e_233_75, e_233_76, e_233_77, e_233_78, e_233_80, e_233_83, e_233_85, e_233_87, e_233_88, e_233_91, e_233_93, e_233_96, e_233_98, e_233_100, e_233_103, e_233_105, e_233_106, e_233_109, e_233_111, e_233_114, e_233_115, e_233_116, e_233_117, e_233_120, e_233_122, e_233_123, e_233_124, e_233_125, e_233_126, e_233_128, e_233_129, e_233_130, e_233_132, e_233_134, e_233_137, e_233_138, e_233_141, e_233_143, e_233_144, e_233_145, e_233_148, e_233_150, e_233_151, e_233_152, e_233_153, e_233_156, e_233_157, e_233_158, e_233_160, e_233_161, e_233_163, e_233_166, e_233_167, e_233_168, e_233_171, e_233_174, e_233_175, e_233_177, e_233_178, e_233_182, e_233_184, e_233_187, e_233_188, e_233_191, e_233_193, e_233_194, e_233_196, e_233_199, e_233_202, e_233_204, e_233_207, e_233_208, e_233_210, e_233_211, e_233_215, e_233_216, e_233_219, e_233_221, e_233_224, e_233_225, e_233_227, e_233_229, e_233_232, e_233_235, e_233_236, e_233_239, e_233_241, e_233_242, e_233_243, e_233_245, e_233_247, e_233_250, e_233_253, e_233_256, e_233_257, e_233_259, e_233_261, e_233_264, e_233_267, e_233_268, e_233_270, e_233_273, e_233_276, e_233_278, e_233_280, e_233_283, e_233_286, e_233_288, Option.bind_some, Option.bind_none, m_kt, m_kn, Option.toList_some, Option.toList_none, List.nil_append, List.cons_append, List.append_nil, ltn, ite_not, ↓reduceIte, true_or, or_true, nP1, oI_s, oI_n, bI_f, bI_t, i1_0, i0_0, Bool.false_eq_true, not_true_eq_false, not_false_eq_true, c, n0le (show q < 2 ^ 31 by omega)]
    unfold stp
    cases c : bt s p
    · have hnb : nb (wN W) (gN W) s p = true := by
        rcases b3 with z | z
        · rw [c] at z; cases z
        · exact z
      obtain ⟨j, q, fj, eq, bq, hj, ef⟩ := fsS_some hnb
      have hq : q < pN W := bes_lt hw.1 hp eq
      have e3 := fd_runE (ν := Unit) (c := fun k => obt s (bes (wN W) (gN W) p k)) (n := 4) (F := fun j _ => ev O (d + 5) 233 213 [.ref 66, .int (nI fr), .int (nI to), .int (nI st), .int wt, .int (nI k), .int (nI n), .int (nI p), .int (nI (t + 1)), .int (-1), .int (nI j)] [] (hE h v')) (E := fun j r => ∀ q, bes (wN W) (gN W) p j = some q → r = ev O (d + 5) 233 213 [.ref 66, .int (nI fr), .int (nI to), .int (nI st), .int wt, .int (nI k), .int (nI n), .int (nI p), .int (nI (t + 1)), .int (nI q), .int (nI (j + 1))] [] (hE h v')) (fun j _ hj => by
        have h3 : ¬ (4 : Int32) ≤ nI j := nI_ge (b := 4) hj (by omega)
        cases e : bes (wN W) (gN W) p j with
        | none =>
          refine ⟨fun q => (by cases q), fun _ => ⟨(), ?_⟩⟩
          rw [e_233_213]
          simp only [e_233_0, e_233_1, e_233_2, e_233_5, e_233_6, e_233_7, e_233_8, e_233_11, e_233_14, e_233_15, e_233_16, e_233_19, e_233_22, e_233_23, e_233_26, e_233_29, e_233_30, e_233_33, e_233_34, e_233_35, e_233_38, e_233_41, e_233_42, e_233_44, e_233_45, e_233_48, e_233_51, e_233_54, e_233_56, e_233_57, e_233_60, e_233_61, e_233_64, e_233_65, e_233_66, e_233_69, e_233_72, e_233_73, e_233_74, e_233_75, e_233_76, e_233_77, e_233_78, e_233_80, e_233_83, e_233_85, e_233_87, e_233_88, e_233_91, e_233_93, e_233_96, e_233_98, e_233_100, e_233_103, e_233_105, e_233_106, e_233_109, e_233_111, e_233_114, e_233_115, e_233_116, e_233_117, e_233_120, e_233_122, e_233_123, e_233_124, e_233_125, e_233_126, e_233_128, e_233_129, e_233_130, e_233_132, e_233_134, e_233_137, e_233_138, e_233_141, e_233_143, e_233_144, e_233_145, e_233_148, e_233_150, e_233_151, e_233_152, e_233_153, e_233_156, e_233_157, e_233_158, e_233_160, e_233_161, e_233_163, e_233_166, e_233_167, e_233_168, e_233_171, e_233_174, e_233_175, e_233_177, e_233_178, e_233_180, e_233_182, e_233_184, e_233_187, e_233_188, e_233_191, e_233_193, e_233_194, e_233_196, e_233_199, e_233_202, e_233_204, e_233_207, e_233_208, e_233_210, e_233_211, e_233_215, e_233_216, e_233_219, e_233_221, e_233_224, e_233_225, e_233_227, e_233_229, e_233_232, e_233_235, e_233_236, e_233_239, e_233_241, e_233_242, e_233_243, e_233_245, e_233_247, e_233_250, e_233_253, e_233_256, e_233_257, e_233_259, e_233_261, e_233_264, e_233_267, e_233_268, e_233_270, e_233_273, e_233_276, e_233_278, e_233_280, e_233_283, e_233_286, e_233_288, Option.bind_some, Option.bind_none, m_kt, m_kn, Option.toList_some, Option.toList_none, List.nil_append, List.cons_append, List.append_nil, ltn, ite_not, ↓reduceIte, true_or, or_true, nP1, oI_s, oI_n, bI_f, bI_t, i1_0, i0_0, Bool.false_eq_true, not_true_eq_false, not_false_eq_true, h3, m1_0, (H1 v').isc, mbeside_ev O (d + 3) (H1 v').w R hp hj, e]
        | some q =>
          have hq : q < pN W := bes_lt hw.1 hp e
          refine ⟨fun hc => ?_, fun hc => ⟨(), ?_⟩⟩
          · have hc : bt s q = true := hc
            intro q' e'
            cases e'
            rw [e_233_213]
            simp only [e_233_0, e_233_1, e_233_2, e_233_5, e_233_6, e_233_7, e_233_8, e_233_11, e_233_14, e_233_15, e_233_16, e_233_19, e_233_22, e_233_23, e_233_26, e_233_29, e_233_30, e_233_33, e_233_34, e_233_35, e_233_38, e_233_41, e_233_42, e_233_44, e_233_45, e_233_48, e_233_51, e_233_54, e_233_56, e_233_57, e_233_60, e_233_61, e_233_64, e_233_65, e_233_66, e_233_69, e_233_72, e_233_73, e_233_74, e_233_75, e_233_76, e_233_77, e_233_78, e_233_80, e_233_83, e_233_85, e_233_87, e_233_88, e_233_91, e_233_93, e_233_96, e_233_98, e_233_100, e_233_103, e_233_105, e_233_106, e_233_109, e_233_111, e_233_114, e_233_115, e_233_116, e_233_117, e_233_120, e_233_122, e_233_123, e_233_124, e_233_125, e_233_126, e_233_128, e_233_129, e_233_130, e_233_132, e_233_134, e_233_137, e_233_138, e_233_141, e_233_143, e_233_144, e_233_145, e_233_148, e_233_150, e_233_151, e_233_152, e_233_153, e_233_156, e_233_157, e_233_158, e_233_160, e_233_161, e_233_163, e_233_166, e_233_167, e_233_168, e_233_171, e_233_174, e_233_175, e_233_177, e_233_178, e_233_180, e_233_182, e_233_184, e_233_187, e_233_188, e_233_191, e_233_193, e_233_194, e_233_196, e_233_199, e_233_202, e_233_204, e_233_207, e_233_208, e_233_210, e_233_211, e_233_215, e_233_216, e_233_219, e_233_221, e_233_224, e_233_225, e_233_227, e_233_229, e_233_232, e_233_235, e_233_236, e_233_239, e_233_241, e_233_242, e_233_243, e_233_245, e_233_247, e_233_250, e_233_253, e_233_256, e_233_257, e_233_259, e_233_261, e_233_264, e_233_267, e_233_268, e_233_270, e_233_273, e_233_276, e_233_278, e_233_280, e_233_283, e_233_286, e_233_288, Option.bind_some, Option.bind_none, m_kt, m_kn, Option.toList_some, Option.toList_none, List.nil_append, List.cons_append, List.append_nil, ltn, ite_not, ↓reduceIte, true_or, or_true, nP1, oI_s, oI_n, bI_f, bI_t, i1_0, i0_0, Bool.false_eq_true, not_true_eq_false, not_false_eq_true, h3, m1_0, (H1 v').isc, mbeside_ev O (d + 3) (H1 v').w R hp hj, e, n0le (show q < 2 ^ 31 by omega), gM22 (H1 v').1, hac, has_ev O (d + 4) _ s (show q < 32 by omega), hc]
          · have hc : bt s q = false := hc
            rw [e_233_213]
            simp only [e_233_0, e_233_1, e_233_2, e_233_5, e_233_6, e_233_7, e_233_8, e_233_11, e_233_14, e_233_15, e_233_16, e_233_19, e_233_22, e_233_23, e_233_26, e_233_29, e_233_30, e_233_33, e_233_34, e_233_35, e_233_38, e_233_41, e_233_42, e_233_44, e_233_45, e_233_48, e_233_51, e_233_54, e_233_56, e_233_57, e_233_60, e_233_61, e_233_64, e_233_65, e_233_66, e_233_69, e_233_72, e_233_73, e_233_74, e_233_75, e_233_76, e_233_77, e_233_78, e_233_80, e_233_83, e_233_85, e_233_87, e_233_88, e_233_91, e_233_93, e_233_96, e_233_98, e_233_100, e_233_103, e_233_105, e_233_106, e_233_109, e_233_111, e_233_114, e_233_115, e_233_116, e_233_117, e_233_120, e_233_122, e_233_123, e_233_124, e_233_125, e_233_126, e_233_128, e_233_129, e_233_130, e_233_132, e_233_134, e_233_137, e_233_138, e_233_141, e_233_143, e_233_144, e_233_145, e_233_148, e_233_150, e_233_151, e_233_152, e_233_153, e_233_156, e_233_157, e_233_158, e_233_160, e_233_161, e_233_163, e_233_166, e_233_167, e_233_168, e_233_171, e_233_174, e_233_175, e_233_177, e_233_178, e_233_180, e_233_182, e_233_184, e_233_187, e_233_188, e_233_191, e_233_193, e_233_194, e_233_196, e_233_199, e_233_202, e_233_204, e_233_207, e_233_208, e_233_210, e_233_211, e_233_215, e_233_216, e_233_219, e_233_221, e_233_224, e_233_225, e_233_227, e_233_229, e_233_232, e_233_235, e_233_236, e_233_239, e_233_241, e_233_242, e_233_243, e_233_245, e_233_247, e_233_250, e_233_253, e_233_256, e_233_257, e_233_259, e_233_261, e_233_264, e_233_267, e_233_268, e_233_270, e_233_273, e_233_276, e_233_278, e_233_280, e_233_283, e_233_286, e_233_288, Option.bind_some, Option.bind_none, m_kt, m_kn, Option.toList_some, Option.toList_none, List.nil_append, List.cons_append, List.append_nil, ltn, ite_not, ↓reduceIte, true_or, or_true, nP1, oI_s, oI_n, bI_f, bI_t, i1_0, i0_0, Bool.false_eq_true, not_true_eq_false, not_false_eq_true, h3, m1_0, (H1 v').isc, mbeside_ev O (d + 3) (H1 v').w R hp hj, e, n0le (show q < 2 ^ 31 by omega), gM22 (H1 v').1, hac, has_ev O (d + 4) _ s (show q < 32 by omega), hc]) ()
      rcases e3 with ⟨j', ej, e3⟩ | ⟨en, -⟩
      · rw [fj] at ej
        cases ej
        have e3 := e3 q eq
        simp only [nI_0] at e3
        simp only [e_233_0, e_233_1, e_233_2, e_233_5, e_233_6, e_233_7, e_233_8, e_233_11, e_233_14, e_233_15, e_233_16, e_233_19, e_233_22, e_233_23, e_233_26, e_233_29, e_233_30, e_233_33, e_233_34, e_233_35, e_233_38, e_233_41, e_233_42, e_233_44, e_233_45, e_233_48, e_233_51, e_233_54, e_233_56, e_233_57, e_233_60, e_233_61, e_233_64, e_233_65, e_233_66, e_233_69, e_233_72, e_233_73, e_233_74, e_233_75, e_233_76, e_233_77, e_233_78, e_233_80, e_233_83, e_233_85, e_233_87, e_233_88, e_233_91, e_233_93, e_233_96, e_233_98, e_233_100, e_233_103, e_233_105, e_233_106, e_233_109, e_233_111, e_233_114, e_233_115, e_233_116, e_233_117, e_233_120, e_233_122, e_233_123, e_233_124, e_233_125, e_233_126, e_233_128, e_233_129, e_233_130, e_233_132, e_233_134, e_233_137, e_233_138, e_233_141, e_233_143, e_233_144, e_233_145, e_233_148, e_233_150, e_233_151, e_233_152, e_233_153, e_233_156, e_233_157, e_233_158, e_233_160, e_233_161, e_233_163, e_233_166, e_233_167, e_233_168, e_233_171, e_233_174, e_233_175, e_233_177, e_233_178, e_233_182, e_233_184, e_233_187, e_233_188, e_233_191, e_233_193, e_233_194, e_233_196, e_233_199, e_233_202, e_233_204, e_233_207, e_233_208, e_233_210, e_233_211, e_233_215, e_233_216, e_233_219, e_233_221, e_233_224, e_233_225, e_233_227, e_233_229, e_233_232, e_233_235, e_233_236, e_233_239, e_233_241, e_233_242, e_233_243, e_233_245, e_233_247, e_233_250, e_233_253, e_233_256, e_233_257, e_233_259, e_233_261, e_233_264, e_233_267, e_233_268, e_233_270, e_233_273, e_233_276, e_233_278, e_233_280, e_233_283, e_233_286, e_233_288, Option.bind_some, Option.bind_none, m_kt, m_kn, Option.toList_some, Option.toList_none, List.nil_append, List.cons_append, List.append_nil, ltn, ite_not, ↓reduceIte, true_or, or_true, nP1, oI_s, oI_n, bI_f, bI_t, i1_0, i0_0, Bool.false_eq_true, not_true_eq_false, not_false_eq_true, h1, gM22 (H1 v').1, hac, has_ev O (d + 4) _ s (show p < 32 by omega), c]
        refine ⟨(.int (nI q), .int (nI (j + 1))), Eq.trans e3 ?_⟩
        rw [hdone q mJ (j + 1) (by omega) (by omega), ef]
        rfl
      · rw [fj] at en; cases en
    · have := hdone p mJ 0 (by omega) (by omega)
      simp only [nI_0] at this
      simp only [e_233_0, e_233_1, e_233_2, e_233_5, e_233_6, e_233_7, e_233_8, e_233_11, e_233_14, e_233_15, e_233_16, e_233_19, e_233_22, e_233_23, e_233_26, e_233_29, e_233_30, e_233_33, e_233_34, e_233_35, e_233_38, e_233_41, e_233_42, e_233_44, e_233_45, e_233_48, e_233_51, e_233_54, e_233_56, e_233_57, e_233_60, e_233_61, e_233_64, e_233_65, e_233_66, e_233_69, e_233_72, e_233_73, e_233_74, e_233_75, e_233_76, e_233_77, e_233_78, e_233_80, e_233_83, e_233_85, e_233_87, e_233_88, e_233_91, e_233_93, e_233_96, e_233_98, e_233_100, e_233_103, e_233_105, e_233_106, e_233_109, e_233_111, e_233_114, e_233_115, e_233_116, e_233_117, e_233_120, e_233_122, e_233_123, e_233_124, e_233_125, e_233_126, e_233_128, e_233_129, e_233_130, e_233_132, e_233_134, e_233_137, e_233_138, e_233_141, e_233_143, e_233_144, e_233_145, e_233_148, e_233_150, e_233_151, e_233_152, e_233_153, e_233_156, e_233_157, e_233_158, e_233_160, e_233_161, e_233_163, e_233_166, e_233_167, e_233_168, e_233_171, e_233_174, e_233_175, e_233_177, e_233_178, e_233_182, e_233_184, e_233_187, e_233_188, e_233_191, e_233_193, e_233_194, e_233_196, e_233_199, e_233_202, e_233_204, e_233_207, e_233_208, e_233_210, e_233_211, e_233_215, e_233_216, e_233_219, e_233_221, e_233_224, e_233_225, e_233_227, e_233_229, e_233_232, e_233_235, e_233_236, e_233_239, e_233_241, e_233_242, e_233_243, e_233_245, e_233_247, e_233_250, e_233_253, e_233_256, e_233_257, e_233_259, e_233_261, e_233_264, e_233_267, e_233_268, e_233_270, e_233_273, e_233_276, e_233_278, e_233_280, e_233_283, e_233_286, e_233_288, Option.bind_some, Option.bind_none, m_kt, m_kn, Option.toList_some, Option.toList_none, List.nil_append, List.cons_append, List.append_nil, ltn, ite_not, ↓reduceIte, true_or, or_true, nP1, oI_s, oI_n, bI_f, bI_t, i1_0, i0_0, Bool.false_eq_true, not_true_eq_false, not_false_eq_true, h1, gM22 (H1 v').1, hac, has_ev O (d + 4) _ s (show p < 32 by omega), c]
      exact ⟨(.int (nI p), .int 0), this⟩) () (mJ, mJ)
  obtain ⟨v2, e2⟩ := e2
  refine ⟨v', ?_⟩
  have s0 : m_si h 78 (nI n) (shl1 to) = some (hE h (upd v0 n (shl1 to))) := si_n e8 (by omega) (by decide) _
  simp only [Nat.sub_zero] at e
  simp only [e_233_0, e_233_1, e_233_2, e_233_5, e_233_6, e_233_7, e_233_8, e_233_11, e_233_14, e_233_15, e_233_16, e_233_19, e_233_22, e_233_23, e_233_26, e_233_29, e_233_30, e_233_33, e_233_34, e_233_35, e_233_38, e_233_41, e_233_42, e_233_44, e_233_45, e_233_48, e_233_51, e_233_54, e_233_56, e_233_57, e_233_60, e_233_61, e_233_64, e_233_65, e_233_66, e_233_69, e_233_72, e_233_73, e_233_74, e_233_75, e_233_76, e_233_77, e_233_78, e_233_80, e_233_83, e_233_85, e_233_87, e_233_88, e_233_91, e_233_93, e_233_96, e_233_98, e_233_100, e_233_103, e_233_105, e_233_106, e_233_109, e_233_111, e_233_114, e_233_115, e_233_116, e_233_117, e_233_120, e_233_122, e_233_123, e_233_124, e_233_125, e_233_126, e_233_128, e_233_129, e_233_130, e_233_134, e_233_137, e_233_138, e_233_141, e_233_143, e_233_144, e_233_145, e_233_148, e_233_150, e_233_151, e_233_152, e_233_153, e_233_156, e_233_157, e_233_158, e_233_160, e_233_161, e_233_163, e_233_166, e_233_167, e_233_168, e_233_171, e_233_175, e_233_177, e_233_178, e_233_182, e_233_184, e_233_187, e_233_188, e_233_191, e_233_193, e_233_194, e_233_196, e_233_199, e_233_202, e_233_204, e_233_207, e_233_208, e_233_210, e_233_211, e_233_213, e_233_215, e_233_216, e_233_219, e_233_221, e_233_224, e_233_225, e_233_227, e_233_229, e_233_232, e_233_235, e_233_236, e_233_239, e_233_241, e_233_242, e_233_243, e_233_245, e_233_247, e_233_250, e_233_253, e_233_256, e_233_257, e_233_259, e_233_261, e_233_264, e_233_267, e_233_268, e_233_270, e_233_273, e_233_276, e_233_278, e_233_280, e_233_283, e_233_286, e_233_288, Option.bind_some, Option.bind_none, m_kt, m_kn, Option.toList_some, Option.toList_none, List.nil_append, List.cons_append, List.append_nil, ltn, ite_not, ↓reduceIte, true_or, or_true, nP1, oI_s, oI_n, bI_f, bI_t, i1_0, i0_0, Bool.false_eq_true, not_true_eq_false, not_false_eq_true, gM22 H.1, shl_nI, s0]
  refine Eq.trans e ?_
  simp only [e_233_0, e_233_1, e_233_2, e_233_5, e_233_6, e_233_7, e_233_8, e_233_11, e_233_14, e_233_15, e_233_16, e_233_19, e_233_22, e_233_23, e_233_26, e_233_29, e_233_30, e_233_33, e_233_34, e_233_35, e_233_38, e_233_41, e_233_42, e_233_44, e_233_45, e_233_48, e_233_51, e_233_54, e_233_56, e_233_57, e_233_60, e_233_61, e_233_64, e_233_65, e_233_66, e_233_69, e_233_72, e_233_73, e_233_74, e_233_75, e_233_76, e_233_77, e_233_78, e_233_80, e_233_83, e_233_85, e_233_87, e_233_88, e_233_91, e_233_93, e_233_96, e_233_98, e_233_100, e_233_103, e_233_105, e_233_106, e_233_109, e_233_111, e_233_114, e_233_115, e_233_116, e_233_117, e_233_120, e_233_122, e_233_123, e_233_124, e_233_125, e_233_126, e_233_128, e_233_129, e_233_130, e_233_134, e_233_137, e_233_138, e_233_141, e_233_143, e_233_144, e_233_145, e_233_148, e_233_150, e_233_151, e_233_152, e_233_153, e_233_156, e_233_157, e_233_158, e_233_160, e_233_161, e_233_163, e_233_166, e_233_167, e_233_168, e_233_171, e_233_174, e_233_175, e_233_177, e_233_178, e_233_182, e_233_184, e_233_187, e_233_188, e_233_191, e_233_193, e_233_194, e_233_196, e_233_199, e_233_202, e_233_204, e_233_207, e_233_208, e_233_210, e_233_211, e_233_213, e_233_215, e_233_216, e_233_219, e_233_221, e_233_224, e_233_225, e_233_227, e_233_229, e_233_232, e_233_235, e_233_236, e_233_239, e_233_241, e_233_242, e_233_243, e_233_245, e_233_247, e_233_250, e_233_253, e_233_256, e_233_257, e_233_259, e_233_261, e_233_264, e_233_267, e_233_268, e_233_270, e_233_273, e_233_276, e_233_278, e_233_280, e_233_283, e_233_286, e_233_288, Option.bind_some, Option.bind_none, m_kt, m_kn, Option.toList_some, Option.toList_none, List.nil_append, List.cons_append, List.append_nil, ltn, ite_not, ↓reduceIte, true_or, or_true, nP1, oI_s, oI_n, bI_f, bI_t, i1_0, i0_0, Bool.false_eq_true, not_true_eq_false, not_false_eq_true]
  refine Eq.trans e2 ?_
  have h3 : ¬ nI (k + 1) ≤ nI k := nI_ge (by omega) (by omega)
  rw [e_233_180]
  simp only [e_233_0, e_233_1, e_233_2, e_233_5, e_233_6, e_233_7, e_233_8, e_233_11, e_233_14, e_233_15, e_233_16, e_233_19, e_233_22, e_233_23, e_233_26, e_233_29, e_233_30, e_233_33, e_233_34, e_233_35, e_233_38, e_233_41, e_233_42, e_233_44, e_233_45, e_233_48, e_233_51, e_233_54, e_233_56, e_233_57, e_233_60, e_233_61, e_233_64, e_233_65, e_233_66, e_233_69, e_233_72, e_233_73, e_233_74, e_233_75, e_233_76, e_233_77, e_233_78, e_233_80, e_233_83, e_233_85, e_233_87, e_233_88, e_233_91, e_233_93, e_233_96, e_233_98, e_233_100, e_233_103, e_233_105, e_233_106, e_233_109, e_233_111, e_233_114, e_233_115, e_233_116, e_233_117, e_233_120, e_233_122, e_233_123, e_233_124, e_233_125, e_233_126, e_233_128, e_233_129, e_233_130, e_233_134, e_233_137, e_233_138, e_233_141, e_233_143, e_233_144, e_233_145, e_233_148, e_233_150, e_233_151, e_233_152, e_233_153, e_233_156, e_233_157, e_233_158, e_233_160, e_233_161, e_233_163, e_233_166, e_233_167, e_233_168, e_233_171, e_233_174, e_233_175, e_233_177, e_233_178, e_233_182, e_233_184, e_233_187, e_233_188, e_233_191, e_233_193, e_233_194, e_233_196, e_233_199, e_233_202, e_233_204, e_233_207, e_233_208, e_233_210, e_233_211, e_233_213, e_233_215, e_233_216, e_233_219, e_233_221, e_233_224, e_233_225, e_233_227, e_233_229, e_233_232, e_233_235, e_233_236, e_233_239, e_233_241, e_233_242, e_233_243, e_233_245, e_233_247, e_233_250, e_233_253, e_233_256, e_233_257, e_233_259, e_233_261, e_233_264, e_233_267, e_233_268, e_233_270, e_233_273, e_233_276, e_233_278, e_233_280, e_233_283, e_233_286, e_233_288, Option.bind_some, Option.bind_none, m_kt, m_kn, Option.toList_some, Option.toList_none, List.nil_append, List.cons_append, List.append_nil, ltn, ite_not, ↓reduceIte, true_or, or_true, nP1, oI_s, oI_n, bI_f, bI_t, i1_0, i0_0, Bool.false_eq_true, not_true_eq_false, not_false_eq_true, h3]
end MParade
