/-! Mend; what the reference does at blow, strew, mend -/
theorem cr_c {s : Int32} {p : Nat} (V : WD) : ∀ n, lp (crF s) n V (7 + 6 * p + 3) = if p < n then V (7 + 6 * p + 3) + bI (bt s p) else V (7 + 6 * p + 3)
  | 0 => by rw [lp_0, if_neg (by omega)]
  | n + 1 => by
    have ih := cr_c (s := s) (p := p) V n
    rw [lp_s, crF]
    by_cases c : p = n
    · subst c
      rw [pk_us, ih, if_neg (by omega), if_pos (by omega)]
    · rw [pk_un (by omega), ih]
      by_cases z : p < n
      · rw [if_pos z, if_pos (by omega)]
      · rw [if_neg z, if_neg (by omega)]
theorem cr_o {s : Int32} {i : Nat} (V : WD) : ∀ n, (∀ p, p < n → i ≠ 7 + 6 * p + 3) → lp (crF s) n V i = V i
  | 0, _ => rfl
  | n + 1, h => by
    rw [lp_s, crF, pk_un (h n (by omega))]
    exact cr_o V n (fun p hp => h p (by omega))
theorem cr_rng {W : WD} {s : Int32} (R : rng W) (h : ∀ p, p < pN W → bt s p = true → W (7 + 6 * p + 3) ≤ 2) : rng (crW W s) := by
  have hN := pN_le R
  refine rng_pan R (fun i hi => cr_o W _ (fun p hp => by omega)) (fun p hp => ?_)
  have q := rP R hp
  unfold crW
  have e0 : lp (crF s) (pN W) W (7 + 6 * p) = W (7 + 6 * p) := cr_o W _ (fun r hr => by omega)
  rw [e0, cr_o (i := 7 + 6 * p + 1) W _ (fun r hr => by omega), cr_o (i := 7 + 6 * p + 2) W _ (fun r hr => by omega), cr_o (i := 7 + 6 * p + 4) W _ (fun r hr => by omega), cr_o (i := 7 + 6 * p + 5) W _ (fun r hr => by omega), cr_c]
  refine ⟨q.1, q.2.1, q.2.2.1, ?_, q.2.2.2.2⟩
  split
  · rename_i hp'
    have c := q.2.2.2.1
    unfold bd at *
    cases b : bt s p
    · rw [bI_f, Int32.add_zero]; exact c
    · have l := h p hp' b
      rw [i_le] at l
      have k2 : (2 : Int32).toInt = 2 := by decide
      have k1 : (1 : Int32).toInt = 1 := by decide
      rw [bI_t, fb_addI (by omega) (by omega), k1]
      omega
  · exact q.2.2.2.1
theorem go_c2 {W : WD} (R : rng W) {i : Nat} : ∀ (n l p : Nat) (set : Int32) (sl : Nat), p < pN W → sl ≤ 1000 → bt (goS W n l p set sl).1 i = true → bt set i = true ∨ (i < pN W ∧ crk W i = false)
  | 0, _, _, _, _, _, _, h => .inl h
  | n + 1, l, p, set, sl, hp, hs, h => by
    have hN := pN_le R
    have I := nxR_I R (l := l) (wh := fun q => !crk W q && !bt set q) hp hs
    cases e : (nxR W l (fun q => !crk W q && !bt set q) p sl).1 with
    | none => rw [goS_n e] at h; exact .inl h
    | some q =>
      rw [goS_s e] at h
      obtain ⟨hq, wq, -⟩ := I.2 q e
      rcases go_c2 R n _ q _ _ hq I.1 h with z | z
      · rw [b_or, Bool.or_eq_true] at z
        rcases z with z | z
        · exact .inl z
        · rcases Nat.lt_or_ge i 32 with y | y
          · rw [bt_shl1 (by omega) y, decide_eq_true_eq] at z
            subst z
            rw [Bool.and_eq_true, Bool.not_eq_true'] at wq
            exact .inr ⟨hq, wq.1⟩
          · rw [b_big y] at z; cases z
      · exact .inr z
theorem st_c2 {W : WD} (R : rng W) {p f i : Nat} (hp : p < pN W) (hi : i < pN W) (h : bt (stS W p f).1 i = true) : W (7 + 6 * i + 3) ≤ 2 := by
  have hN := pN_le R
  have c := (rP R (show i < 30 by omega)).2.2.2.1
  unfold bd at c
  have k2 : (2 : Int32).toInt = 2 := by decide
  have k3 : (3 : Int32).toInt = 3 := by decide
  have nb : brk W i = false → W (7 + 6 * i + 3) ≤ 2 := fun z => by
    rw [i_le, k2]
    unfold brk at z
    have : (W (7 + 6 * i + 3)).toInt ≠ 3 := fun y => by
      have := of_decide_eq_false z
      exact this (Int32.toInt_inj.mp (by rw [y, k3]))
    omega
  by_cases hf : f ≤ beaN W p
  · rw [stS_0 hf, b_0] at h; cases h
  · rw [stS_p (by omega)] at h
    rcases go_c2 R _ _ _ _ _ hp (by omega) h with z | z
    · cases b : brk W p
      · rw [b] at z
        simp only [Bool.false_eq_true, ↓reduceIte] at z
        rw [bt_shl1 (by omega) (by omega), decide_eq_true_eq] at z
        subst z
        exact nb b
      · rw [b] at z
        simp only [↓reduceIte] at z
        rw [b_0] at z; cases z
    · have := of_decide_eq_false z.2
      apply nb
      unfold brk
      rw [decide_eq_false_iff_not]
      intro y
      rw [y] at this
      exact this (by decide)
section RactM
variable {h : mH} {m : Nat → Int32} {W : WD} {q : Nat} {U : Nat → Int32}
/-- an act of the reference that is remembered -/
def MP (r : Option mR) (h : mH) (m : Nat → Int32) (t : Nat) (W W' : WD) (q : Nat) (U : Nat → Int32) (v : Value) : Prop := if t = 0 then ∃ U', r = some (.inl (some v), hT (hU (tH h m 0) (upd (upd m 0 0) 6 (nI (min (q + 1) 12))) U') W') ∧ rmU W q U U' else r = some (.inl (some (.int 0)), tH h m (nI t))
theorem Mstrew_ev (O : mO) (d : Nat) (H : MS h m W) (R : rng W) (hq : q ≤ 12) (h6 : m 6 = nI q) (e70 : h.1[70]? = some (aI 2160 U)) (x y : Int32) : MP (ev O (d + 2) 201 0 [.ref 66, .int x, .int y, mJ] [] h) h m (codeSt W x y) W (upd W (7 + 6 * x.toNatClampNeg + 2) y) q U (.int (W (7 + 6 * x.toNatClampNeg + 2))) := by
  have H0 := H.t 0
  have hN := pN_le R
  unfold codeSt nPa MP
  cases a1 : inB x 0 (nI (pN W) - 1)
  · simp only [e_201_0, e_201_1, e_201_2, e_201_5, e_201_6, e_201_7, e_201_8, e_201_11, e_201_12, e_201_15, e_201_18, e_201_19, e_201_20, e_201_21, e_201_23, e_201_26, e_201_29, e_201_30, e_201_33, e_201_34, e_201_35, e_201_38, e_201_41, e_201_42, e_201_43, e_201_44, e_201_47, e_201_48, e_201_49, e_201_50, e_201_53, e_201_54, e_201_55, e_201_56, e_201_57, e_201_58, e_201_61, e_201_62, Option.bind_some, Option.bind_none, m_kt, m_kn, Option.toList_some, Option.toList_none, List.nil_append, List.cons_append, List.append_nil, ltn, ite_not, ↓reduceIte, true_or, or_true, nP1, oI_s, oI_n, bI_f, bI_t, i1_0, i0_0, Bool.false_eq_true, not_true_eq_false, not_false_eq_true, nI_0, m1m1, Nat.one_ne_zero, two_ne0, pMt H, H0.isc, noPane_ev O _ H0.w R, noHour_ev, noSeer_ev O _ H0.w, in_ev, Bool.not_false, Bool.not_true, bI_f, bI_t, thr0_ev O _ H0, thr1_ev O _ H0, i1_0, i0_0, z01, o01, tH_tH, Bool.false_eq_true, a1]
    rfl
  · cases a2 : inB y 0 100
    · simp only [e_201_0, e_201_1, e_201_2, e_201_5, e_201_6, e_201_7, e_201_8, e_201_11, e_201_12, e_201_15, e_201_18, e_201_19, e_201_20, e_201_21, e_201_23, e_201_26, e_201_29, e_201_30, e_201_33, e_201_34, e_201_35, e_201_38, e_201_41, e_201_42, e_201_43, e_201_44, e_201_47, e_201_48, e_201_49, e_201_50, e_201_53, e_201_54, e_201_55, e_201_56, e_201_57, e_201_58, e_201_61, e_201_62, Option.bind_some, Option.bind_none, m_kt, m_kn, Option.toList_some, Option.toList_none, List.nil_append, List.cons_append, List.append_nil, ltn, ite_not, ↓reduceIte, true_or, or_true, nP1, oI_s, oI_n, bI_f, bI_t, i1_0, i0_0, Bool.false_eq_true, not_true_eq_false, not_false_eq_true, nI_0, m1m1, Nat.one_ne_zero, two_ne0, pMt H, H0.isc, noPane_ev O _ H0.w R, noHour_ev, noSeer_ev O _ H0.w, in_ev, Bool.not_false, Bool.not_true, bI_f, bI_t, thr0_ev O _ H0, thr1_ev O _ H0, i1_0, i0_0, z01, o01, tH_tH, Bool.false_eq_true, a1, a2]
      rfl
    · have b1 := a1
      obtain ⟨p, hp, rfl⟩ := inB_ix (by omega) a1
      rw [nI_clamp (show p < 2 ^ 31 by omega)]
      have h60 : upd m 0 0 6 = nI q := (pk_un (by omega)).trans h6
      have e70' : (tH h m 0).1[70]? = some (aI 2160 U) := (hne (by decide)).trans e70
      obtain ⟨U', er, ru⟩ := remembers_ev O (d + 1) H0 hq h60 e70'
      have H1 := hU_MS H0 (upd (upd m 0 0) 6 (nI (min (q + 1) 12))) U'
      have se := sets_ev O (d + 1) H1 (show p < 30 by omega) (k := 2) (by omega) y
      have se : ev O (d + 1) 159 0 [.ref 66, .int (nI p), .int 2, .int y] [] (hU (tH h m 0) (upd (upd m 0 0) 6 (nI (min (q + 1) 12))) U') = some (.inl none, hT (hU (tH h m 0) (upd (upd m 0 0) 6 (nI (min (q + 1) 12))) U') (upd W (7 + 6 * p + 2) y)) := se
      simp only [↓reduceIte]
      refine ⟨U', ?_, ru⟩
      simp only [e_201_0, e_201_1, e_201_2, e_201_5, e_201_6, e_201_7, e_201_8, e_201_11, e_201_12, e_201_15, e_201_18, e_201_19, e_201_20, e_201_21, e_201_23, e_201_26, e_201_29, e_201_30, e_201_33, e_201_34, e_201_35, e_201_38, e_201_41, e_201_42, e_201_43, e_201_44, e_201_47, e_201_48, e_201_49, e_201_50, e_201_53, e_201_54, e_201_55, e_201_56, e_201_57, e_201_58, e_201_61, e_201_62, Option.bind_some, Option.bind_none, m_kt, m_kn, Option.toList_some, Option.toList_none, List.nil_append, List.cons_append, List.append_nil, ltn, ite_not, ↓reduceIte, true_or, or_true, nP1, oI_s, oI_n, bI_f, bI_t, i1_0, i0_0, Bool.false_eq_true, not_true_eq_false, not_false_eq_true, nI_0, m1m1, Nat.one_ne_zero, two_ne0, pMt H, H0.isc, noPane_ev O _ H0.w R, noHour_ev, noSeer_ev O _ H0.w, in_ev, Bool.not_false, Bool.not_true, bI_f, bI_t, thr0_ev O _ H0, thr1_ev O _ H0, i1_0, i0_0, z01, o01, tH_tH, Bool.false_eq_true, b1, a2, er, H1.isc, of2_ev O (d + 1) H1.w (show p < 30 by omega), se]
theorem cracks_ev (O : mO) (d : Nat) (H : MS h m W) (R : rng W) (s : Int32) : ev O (d + 1) 226 0 [.ref 66, .int s, mJ] [] h = some (.inl none, hT h (crW W s)) := by
  have hN := pN_le R
  have e := lp_run (F := fun i (_ : Unit) => ev O (d + 1) 226 2 [.ref 66, .int s, .int (nI i)] [] (hT h (lp (crF s) i W))) (f := fun _ t => t) (n := pN W) (fun i t hi => by
    have h1 : ¬ nI (pN W) ≤ nI i := nI_ge hi (by omega)
    have hi3 : i < 30 := by omega
    have H1 := H.hT (lp (crF s) i W)
    have w7 : ∀ j, j < 7 → lp (crF s) i W j = W j := fun j hj => cr_o W i (fun p hp => by omega)
    have pe : ev O (d) 156 0 [.ref 66] [] (hT h (lp (crF s) i W)) = some (.inl (some (.int (nI (pN W)))), hT h (lp (crF s) i W)) := by
      simp only [e_156_0, e_156_1, e_156_4, e_156_5, e_156_6, e_156_7, e_156_10, e_156_11, e_156_12, e_156_13, Option.bind_some, Option.bind_none, m_kt, m_kn, Option.toList_some, Option.toList_none, List.nil_append, List.cons_append, List.append_nil, ltn, ite_not, ↓reduceIte, true_or, or_true, H1.w.2.1, H1.w.w0, H1.w.w1, w7 0 (by omega), w7 1 (by omega), rW0 R, rW1 R, pk_mul]
      rfl
    have oe := of3_ev O d H1.w hi3
    rw [cr_c, if_neg (by omega)] at oe
    have ls : lp (crF s) (i + 1) W = upd (lp (crF s) i W) (7 + 6 * i + 3) (W (7 + 6 * i + 3) + bI (bt s i)) := by
      rw [lp_s, crF, cr_c, if_neg (by omega)]
    have ci : lp (crF s) i W (7 + 6 * i + 3) = W (7 + 6 * i + 3) := by rw [cr_c, if_neg (by omega)]
    rw [e_226_2, ls]
    cases c : bt s i
    · have z : upd (lp (crF s) i W) (7 + 6 * i + 3) (W (7 + 6 * i + 3) + bI false) = lp (crF s) i W := upd_id (by rw [ci, bI_f, Int32.add_zero])
      rw [z]
      simp only [e_226_0, e_226_1, e_226_3, e_226_4, e_226_7, e_226_10, e_226_11, e_226_12, e_226_15, e_226_18, e_226_19, e_226_20, e_226_21, e_226_22, e_226_23, e_226_24, e_226_27, e_226_28, e_226_29, e_226_32, e_226_35, e_226_38, Option.bind_some, Option.bind_none, m_kt, m_kn, Option.toList_some, Option.toList_none, List.nil_append, List.cons_append, List.append_nil, ltn, ite_not, ↓reduceIte, true_or, or_true, nP1, oI_s, oI_n, bI_f, bI_t, i1_0, i0_0, Bool.false_eq_true, not_true_eq_false, not_false_eq_true, H1.isc, pe, h1, has_ev O d _ s (show i < 32 by omega), c]
    · have se := sets_ev O d H1 hi3 (k := 3) (by omega) (W (7 + 6 * i + 3) + 1)
      rw [hT_hT] at se
      have se : ev O (d) 159 0 [.ref 66, .int (nI i), .int 3, .int (W (7 + 6 * i + 3) + 1)] [] (hT h (lp (crF s) i W)) = some (.inl none, hT h (upd (lp (crF s) i W) (7 + 6 * i + 3) (W (7 + 6 * i + 3) + 1))) := se
      simp only [e_226_0, e_226_1, e_226_3, e_226_4, e_226_7, e_226_10, e_226_11, e_226_12, e_226_15, e_226_18, e_226_19, e_226_20, e_226_21, e_226_22, e_226_23, e_226_24, e_226_27, e_226_28, e_226_29, e_226_32, e_226_35, e_226_38, Option.bind_some, Option.bind_none, m_kt, m_kn, Option.toList_some, Option.toList_none, List.nil_append, List.cons_append, List.append_nil, ltn, ite_not, ↓reduceIte, true_or, or_true, nP1, oI_s, oI_n, bI_f, bI_t, i1_0, i0_0, Bool.false_eq_true, not_true_eq_false, not_false_eq_true, H1.isc, pe, h1, has_ev O d _ s (show i < 32 by omega), c, oe, se]) ()
  have h00 : hT h (lp (crF s) 0 W) = h := by unfold hT; rw [lp_0, hset H.2]
  rw [h00] at e
  have H1 := H.hT (lp (crF s) (pN W) W)
  have w7 : ∀ j, j < 7 → lp (crF s) (pN W) W j = W j := fun j hj => cr_o W _ (fun p hp => by omega)
  have pe : ev O (d) 156 0 [.ref 66] [] (hT h (lp (crF s) (pN W) W)) = some (.inl (some (.int (nI (pN W)))), hT h (lp (crF s) (pN W) W)) := by
    simp only [e_156_0, e_156_1, e_156_4, e_156_5, e_156_6, e_156_7, e_156_10, e_156_11, e_156_12, e_156_13, Option.bind_some, Option.bind_none, m_kt, m_kn, Option.toList_some, Option.toList_none, List.nil_append, List.cons_append, List.append_nil, ltn, ite_not, ↓reduceIte, true_or, or_true, H1.w.2.1, H1.w.w0, H1.w.w1, w7 0 (by omega), w7 1 (by omega), rW0 R, rW1 R, pk_mul]
    rfl
  simp only [nI_0] at e
  simp only [e_226_0, e_226_1, e_226_3, e_226_4, e_226_7, e_226_10, e_226_11, e_226_12, e_226_15, e_226_18, e_226_19, e_226_20, e_226_21, e_226_22, e_226_23, e_226_24, e_226_27, e_226_28, e_226_29, e_226_32, e_226_35, e_226_38, Option.bind_some, Option.bind_none, m_kt, m_kn, Option.toList_some, Option.toList_none, List.nil_append, List.cons_append, List.append_nil, ltn, ite_not, ↓reduceIte, true_or, or_true, nP1, oI_s, oI_n, bI_f, bI_t, i1_0, i0_0, Bool.false_eq_true, not_true_eq_false, not_false_eq_true]
  rw [e, e_226_2]
  simp only [e_226_0, e_226_1, e_226_3, e_226_4, e_226_7, e_226_10, e_226_11, e_226_12, e_226_15, e_226_18, e_226_19, e_226_20, e_226_21, e_226_22, e_226_23, e_226_24, e_226_27, e_226_28, e_226_29, e_226_32, e_226_35, e_226_38, Option.bind_some, Option.bind_none, m_kt, m_kn, Option.toList_some, Option.toList_none, List.nil_append, List.cons_append, List.append_nil, ltn, ite_not, ↓reduceIte, true_or, or_true, nP1, oI_s, oI_n, bI_f, bI_t, i1_0, i0_0, Bool.false_eq_true, not_true_eq_false, not_false_eq_true, H1.isc, pe, Int32.le_refl]
  rfl
theorem Mblow_ev (O : mO) (d : Nat) (H : MS h m W) (R : rng W) (hq : q ≤ 12) (h6 : m 6 = nI q) (e70 : h.1[70]? = some (aI 2160 U)) (x y : Int32) : MP (ev O (d + 4) 228 0 [.ref 66, .int x, .int y, mJ] [] h) h m (codeWo W x y) W (crW W (woulV W x y)) q U (.int (bc (woulV W x y))) := by
  have H0 := H.t 0
  have hN := pN_le R
  unfold codeWo nPa MP
  cases a1 : inB x 0 (nI (pN W) - 1)
  · simp only [e_228_0, e_228_1, e_228_2, e_228_5, e_228_6, e_228_7, e_228_8, e_228_11, e_228_12, e_228_15, e_228_18, e_228_19, e_228_20, e_228_21, e_228_24, e_228_27, e_228_30, e_228_31, e_228_34, e_228_35, e_228_36, e_228_39, e_228_42, e_228_43, e_228_44, e_228_45, e_228_48, e_228_49, e_228_50, e_228_51, e_228_54, e_228_55, e_228_56, e_228_57, e_228_60, e_228_61, e_228_64, Option.bind_some, Option.bind_none, m_kt, m_kn, Option.toList_some, Option.toList_none, List.nil_append, List.cons_append, List.append_nil, ltn, ite_not, ↓reduceIte, true_or, or_true, nP1, oI_s, oI_n, bI_f, bI_t, i1_0, i0_0, Bool.false_eq_true, not_true_eq_false, not_false_eq_true, nI_0, m1m1, Nat.one_ne_zero, two_ne0, pMt H, H0.isc, noPane_ev O _ H0.w R, noHour_ev, noSeer_ev O _ H0.w, in_ev, Bool.not_false, Bool.not_true, bI_f, bI_t, thr0_ev O _ H0, thr1_ev O _ H0, i1_0, i0_0, z01, o01, tH_tH, Bool.false_eq_true, a1]
    rfl
  · cases a2 : inB y 1 999
    · simp only [e_228_0, e_228_1, e_228_2, e_228_5, e_228_6, e_228_7, e_228_8, e_228_11, e_228_12, e_228_15, e_228_18, e_228_19, e_228_20, e_228_21, e_228_24, e_228_27, e_228_30, e_228_31, e_228_34, e_228_35, e_228_36, e_228_39, e_228_42, e_228_43, e_228_44, e_228_45, e_228_48, e_228_49, e_228_50, e_228_51, e_228_54, e_228_55, e_228_56, e_228_57, e_228_60, e_228_61, e_228_64, Option.bind_some, Option.bind_none, m_kt, m_kn, Option.toList_some, Option.toList_none, List.nil_append, List.cons_append, List.append_nil, ltn, ite_not, ↓reduceIte, true_or, or_true, nP1, oI_s, oI_n, bI_f, bI_t, i1_0, i0_0, Bool.false_eq_true, not_true_eq_false, not_false_eq_true, nI_0, m1m1, Nat.one_ne_zero, two_ne0, pMt H, H0.isc, noPane_ev O _ H0.w R, noHour_ev, noSeer_ev O _ H0.w, in_ev, Bool.not_false, Bool.not_true, bI_f, bI_t, thr0_ev O _ H0, thr1_ev O _ H0, i1_0, i0_0, z01, o01, tH_tH, Bool.false_eq_true, a1, a2]
      rfl
    · have b1 := a1
      have b2 := a2
      obtain ⟨p, hp, rfl⟩ := inB_ix (by omega) a1
      obtain ⟨f, f1, f2, rfl⟩ := inB1_999 a2
      unfold woulV
      rw [nI_clamp (show p < 2 ^ 31 by omega), nI_clamp (show f < 2 ^ 31 by omega)]
      have h60 : upd m 0 0 6 = nI q := (pk_un (by omega)).trans h6
      have e70' : (tH h m 0).1[70]? = some (aI 2160 U) := (hne (by decide)).trans e70
      obtain ⟨U', er, ru⟩ := remembers_ev O (d + 3) H0 hq h60 e70'
      have H1 := hU_MS H0 (upd (upd m 0 0) 6 (nI (min (q + 1) 12))) U'
      have H2 := H1.hT (crW W (stS W p f).1)
      simp only [↓reduceIte]
      refine ⟨U', ?_, ru⟩
      simp only [e_228_0, e_228_1, e_228_2, e_228_5, e_228_6, e_228_7, e_228_8, e_228_11, e_228_12, e_228_15, e_228_18, e_228_19, e_228_20, e_228_21, e_228_24, e_228_27, e_228_30, e_228_31, e_228_34, e_228_35, e_228_36, e_228_39, e_228_42, e_228_43, e_228_44, e_228_45, e_228_48, e_228_49, e_228_50, e_228_51, e_228_54, e_228_55, e_228_56, e_228_57, e_228_60, e_228_61, e_228_64, Option.bind_some, Option.bind_none, m_kt, m_kn, Option.toList_some, Option.toList_none, List.nil_append, List.cons_append, List.append_nil, ltn, ite_not, ↓reduceIte, true_or, or_true, nP1, oI_s, oI_n, bI_f, bI_t, i1_0, i0_0, Bool.false_eq_true, not_true_eq_false, not_false_eq_true, nI_0, m1m1, Nat.one_ne_zero, two_ne0, pMt H, H0.isc, noPane_ev O _ H0.w R, noHour_ev, noSeer_ev O _ H0.w, in_ev, Bool.not_false, Bool.not_true, bI_f, bI_t, thr0_ev O _ H0, thr1_ev O _ H0, i1_0, i0_0, z01, o01, tH_tH, Bool.false_eq_true, b1, b2, er, H1.isc, gets_ev O d H1.w R hp (show f < 2 ^ 20 by omega), cracks_ev O (d + 2) H1 R, bitCount_ev]
theorem Mmend_ev (O : mO) (d : Nat) (H : MS h m W) (R : rng W) (hq : q ≤ 12) (h6 : m 6 = nI q) (e70 : h.1[70]? = some (aI 2160 U)) : MP (ev O (d + 6) 249 0 [.ref 66] [] h) h m 0 W (mdW W (rouV W)) q U (.int (mdS W (rouV W))) := by
  have H0 := H.t 0
  have h60 : upd m 0 0 6 = nI q := (pk_un (by omega)).trans h6
  have e70' : (tH h m 0).1[70]? = some (aI 2160 U) := (hne (by decide)).trans e70
  obtain ⟨U', er, ru⟩ := remembers_ev O (d + 5) H0 hq h60 e70'
  have H1 := hU_MS H0 (upd (upd m 0 0) 6 (nI (min (q + 1) 12))) U'
  have re := roundNow_ev O d H1.w R
  unfold MP
  simp only [↓reduceIte]
  refine ⟨U', ?_, ru⟩
  simp only [e_249_0, e_249_1, e_249_2, e_249_5, e_249_6, e_249_9, e_249_10, e_249_11, e_249_14, e_249_17, Option.bind_some, Option.bind_none, m_kt, m_kn, Option.toList_some, Option.toList_none, List.nil_append, List.cons_append, List.append_nil, ltn, ite_not, ↓reduceIte, true_or, or_true, nP1, oI_s, oI_n, bI_f, bI_t, i1_0, i0_0, Bool.false_eq_true, not_true_eq_false, not_false_eq_true, pMt H, H0.isc, er, H1.isc, re, mends_ev O (d + 4) H1 R]
  rfl
end RactM
section MendC
variable {h : mH} {g : gT} {W : WD} {q l : Nat} {A B C' : Nat → Int32}
theorem md_loop (O : mO) (d : Nat) (C : CG h g W) (s : Int32) : ∃ h', ev O (d) 135 39 [.ref 0, .int s, .int 0, .int 0] [] h = some (.inl (some (.int (mdS W s))), h') ∧ CA h' g.1 (mdW W s) ∧ out (CB g.1) h h' := by
  obtain ⟨G, H, ga, R, S⟩ := C
  have gp := CG_pos ⟨G, H, ga, R, S⟩
  have hN := pN_le R
  have e := lp_runJ (ν := mH) (F := fun i (t : Int32) hh => ev O (d) 135 39 [.ref 0, .int s, .int t, .int (nI i)] [] hh) (f := fun p t => if bt s p = true then t + W (7 + 6 * p + 3) else t) (n := pN W) (fun i _ hh => CA hh g.1 (lp (mdF s) i W) ∧ out (CB g.1) h hh ∧ i ≤ 30) (fun i t hh hi J => by
    obtain ⟨J1, J2, J3⟩ := J
    have h1 : ¬ nI (pN W) ≤ nI i := nI_ge hi (by omega)
    have G1 : hh.1[0]? = some (oG g) := (J2.2.2 0 (by unfold CB; omega)).trans G
    have gc2 : m_gf hh g.1 0 2 = some (.int (nI (pN W))) := by rw [gC2 J1, md_pN J3]
    have t3 := J1.t3 (show i < 30 by omega)
    rw [md_c, if_neg (by omega)] at t3
    have ls : lp (mdF s) (i + 1) W = mdF s i (lp (mdF s) i W) := rfl
    rw [ls]
    unfold mdF at *
    cases c : bt s i
    · refine ⟨hh, ⟨J1, J2, by omega⟩, ?_⟩
      rw [e_135_39]
      simp only [e_135_0, e_135_1, e_135_4, e_135_5, e_135_8, e_135_9, e_135_12, e_135_13, e_135_16, e_135_17, e_135_20, e_135_23, e_135_24, e_135_25, e_135_28, e_135_29, e_135_32, e_135_35, e_135_36, e_135_37, e_135_38, e_135_40, e_135_41, e_135_44, e_135_47, e_135_50, e_135_51, e_135_52, e_135_53, e_135_54, e_135_55, e_135_58, e_135_59, e_135_60, e_135_63, e_135_66, e_135_67, e_135_68, e_135_69, e_135_70, e_135_71, e_135_74, e_135_77, e_135_78, e_135_79, e_135_80, e_135_83, e_135_86, e_135_87, Option.bind_some, Option.bind_none, m_kt, m_kn, Option.toList_some, Option.toList_none, List.nil_append, List.cons_append, List.append_nil, ltn, ite_not, ↓reduceIte, true_or, or_true, nP1, oI_s, oI_n, bI_f, bI_t, i1_0, i0_0, Bool.false_eq_true, not_true_eq_false, not_false_eq_true, gG0 G1, gc2, h1, has_t s (show i < 32 by omega), c]
    · obtain ⟨h2, e2, H2, F2⟩ := CA_set J1 (md_rng R J3) (show i < 30 by omega) (k := 3) (by omega) 0
      have e2 : m_si hh (g.1 + 4) (nI i) 0 = some h2 := e2
      refine ⟨h2, ⟨H2, J2.tr1 F2, by omega⟩, ?_⟩
      rw [e_135_39]
      simp only [e_135_0, e_135_1, e_135_4, e_135_5, e_135_8, e_135_9, e_135_12, e_135_13, e_135_16, e_135_17, e_135_20, e_135_23, e_135_24, e_135_25, e_135_28, e_135_29, e_135_32, e_135_35, e_135_36, e_135_37, e_135_38, e_135_40, e_135_41, e_135_44, e_135_47, e_135_50, e_135_51, e_135_52, e_135_53, e_135_54, e_135_55, e_135_58, e_135_59, e_135_60, e_135_63, e_135_66, e_135_67, e_135_68, e_135_69, e_135_70, e_135_71, e_135_74, e_135_77, e_135_78, e_135_79, e_135_80, e_135_83, e_135_86, e_135_87, Option.bind_some, Option.bind_none, m_kt, m_kn, Option.toList_some, Option.toList_none, List.nil_append, List.cons_append, List.append_nil, ltn, ite_not, ↓reduceIte, true_or, or_true, nP1, oI_s, oI_n, bI_f, bI_t, i1_0, i0_0, Bool.false_eq_true, not_true_eq_false, not_false_eq_true, gG0 G1, gc2, h1, has_t s (show i < 32 by omega), c, gC9 J1, t3, e2]) 0 h ⟨H, out.rf _ h, by omega⟩
  obtain ⟨h', J, e⟩ := e
  have G1 : h'.1[0]? = some (oG g) := (J.2.1.2.2 0 (by unfold CB; omega)).trans G
  have gc2 : m_gf h' g.1 0 2 = some (.int (nI (pN W))) := by rw [gC2 J.1, md_pN hN]
  simp only [nI_0] at e
  refine ⟨h', e.trans ?_, J.1, J.2.1⟩
  rw [e_135_39]
  simp only [e_135_0, e_135_1, e_135_4, e_135_5, e_135_8, e_135_9, e_135_12, e_135_13, e_135_16, e_135_17, e_135_20, e_135_23, e_135_24, e_135_25, e_135_28, e_135_29, e_135_32, e_135_35, e_135_36, e_135_37, e_135_38, e_135_40, e_135_41, e_135_44, e_135_47, e_135_50, e_135_51, e_135_52, e_135_53, e_135_54, e_135_55, e_135_58, e_135_59, e_135_60, e_135_63, e_135_66, e_135_67, e_135_68, e_135_69, e_135_70, e_135_71, e_135_74, e_135_77, e_135_78, e_135_79, e_135_80, e_135_83, e_135_86, e_135_87, Option.bind_some, Option.bind_none, m_kt, m_kn, Option.toList_some, Option.toList_none, List.nil_append, List.cons_append, List.append_nil, ltn, ite_not, ↓reduceIte, true_or, or_true, nP1, oI_s, oI_n, bI_f, bI_t, i1_0, i0_0, Bool.false_eq_true, not_true_eq_false, not_false_eq_true, gG0 G1, gc2, Int32.le_refl]
  rfl
theorem Gmend_ev (O : mO) (d : Nat) (C : CG h g W) (P : PC h q l A B C') (hq : q ≤ 12) (hl : l < 12) : GP (ev O (d + 3) 135 0 [.ref 0, mJ, mJ, mJ] [] h) h g.1 W (mdW W (rouV W)) q l A B C' none (.int (mdS W (rouV W))) := by
  have C0 := C
  obtain ⟨G, H, ga, R, S⟩ := C
  obtain ⟨h1, A1, B1, C1, e1, F1, K1, P1, s1, s2, s3⟩ := rem_CG O (d + 2) C0 P hq hl
  obtain ⟨h3, e3, H3, F3⟩ := md_loop O (d + 3) K1 (rouV W)
  have rv : nI (grS (wN W) (gN W) (wcS W 1) (wcS W 3)) = rouV W := rfl
  refine ⟨h3, A1, B1, C1, ?_, (F1.mo (fun b hb => .inr (.inl hb))).tr1 (F3.mo (fun b hb => .inl hb)), H3, SH_out F3 (fun b hb => CB_scb ga hb) K1.2.2.2.2, PC_o P1 F3 (fun b hb z => by unfold CB at hb; unfold PS at z; omega), s1, s2, s3⟩
  simp only [e_135_0, e_135_1, e_135_4, e_135_5, e_135_8, e_135_9, e_135_12, e_135_13, e_135_16, e_135_17, e_135_20, e_135_23, e_135_24, e_135_25, e_135_28, e_135_29, e_135_32, e_135_35, e_135_36, e_135_37, e_135_38, e_135_40, e_135_41, e_135_44, e_135_47, e_135_50, e_135_51, e_135_52, e_135_53, e_135_54, e_135_55, e_135_58, e_135_59, e_135_60, e_135_63, e_135_66, e_135_67, e_135_68, e_135_69, e_135_70, e_135_71, e_135_74, e_135_77, e_135_78, e_135_79, e_135_80, e_135_83, e_135_86, e_135_87, Option.bind_some, Option.bind_none, m_kt, m_kn, Option.toList_some, Option.toList_none, List.nil_append, List.cons_append, List.append_nil, ltn, ite_not, ↓reduceIte, true_or, or_true, nP1, oI_s, oI_n, bI_f, bI_t, i1_0, i0_0, Bool.false_eq_true, not_true_eq_false, not_false_eq_true, gG0 G, H.isc, withCracks_ev O (d + 2) H R, greatest_ev O d H R (sub_wc R 1), gG7 G, P_isc P, e1, rv]
  exact e3
end MendC
