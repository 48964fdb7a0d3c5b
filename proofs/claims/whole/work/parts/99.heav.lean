/-! More weight leads nowhere else; the heaviest -/
def le32 (x y : Int32) : Prop := ∀ i, i < 32 → bt x i = true → bt y i = true
theorem nb_mono {w g : Nat} {s t : Int32} {i : Nat} (hw : 1 ≤ w) (hi : i < w * g) (hN : w * g ≤ 30) (h : le32 s t) (q : nb w g s i = true) : nb w g t i = true := by
  rw [nb_iff] at *
  obtain ⟨k, p, hk, e, b⟩ := q
  exact ⟨k, p, hk, e, h p (by have := bes_lt hw hi e; omega) b⟩
theorem rc_mono {w g : Nat} (hw : w < 7) (hg : g < 6) (h1 : 1 ≤ w) (hN : w * g ≤ 30) {hd hd' : Nat → Int32} (hs : ∀ t, sub (w * g) (hd t)) (hs' : ∀ t, sub (w * g) (hd' t)) (fr : Nat) (h : ∀ t, le32 (hd t) (hd' t)) : ∀ t, le32 (rcS w g hd fr t) (rcS w g hd' fr t)
  | 0 => fun i hi b => by
    rw [rcS, b_and, Bool.and_eq_true] at *
    exact ⟨h 0 i hi b.1, b.2⟩
  | t + 1 => fun i hi b => by
    have ih := rc_mono hw hg h1 hN hs hs' fr h t
    rw [rcS, b_and, Bool.and_eq_true] at *
    refine ⟨?_, h (t + 1) i hi b.2⟩
    have b1 := b.1
    rw [bt_ar hw hg h1 hN (sub_rc hs t) hi, Bool.or_eq_true, Bool.and_eq_true, decide_eq_true_eq] at b1
    rw [bt_ar hw hg h1 hN (sub_rc hs' t) hi, Bool.or_eq_true, Bool.and_eq_true, decide_eq_true_eq]
    rcases b1 with c | c
    · exact .inl (ih i hi c)
    · exact .inr ⟨c.1, nb_mono h1 c.1 hN ih c.2⟩
theorem ho_mono {w g : Nat} (hw : w < 7) (hg : g < 6) (h1 : 1 ≤ w) (hN : w * g ≤ 30) {hd hd' : Nat → Int32} (hs : ∀ t, sub (w * g) (hd t)) (hs' : ∀ t, sub (w * g) (hd' t)) {fr to : Nat} (hto : to < 32) (h : ∀ t, le32 (hd t) (hd' t)) (q : (hoS w g hd fr to).isSome = true) : (hoS w g hd' fr to).isSome = true := by
  cases e : hoS w g hd fr to with
  | none => rw [e] at q; cases q
  | some n =>
    obtain ⟨a, b, -⟩ := fd_some e
    have c := rc_mono hw hg h1 hN hs hs' fr h n to hto b
    cases e2 : hoS w g hd' fr to with
    | some k => rfl
    | none => rw [fd_none e2 n a] at c; cases c
theorem anti_ct {c : Nat → Bool} {n : Nat} (h : ∀ i j, i ≤ j → j < n → c j = true → c i = true) {i : Nat} (hi : i < n) : c i = decide (i < fb_ct c n) := by
  cases e : c i
  · have : fb_ct c n = fb_ct c i + fb_ct (fun k => c (i + k)) (n - i) := by rw [← fb_ct_split]; congr 1; omega
    have z : fb_ct (fun k => c (i + k)) (n - i) = 0 := fb_ct_zero.mpr (fun k hk => by
      cases q : c (i + k)
      · rfl
      · rw [h i (i + k) (by omega) (by omega) q] at e; cases e)
    have := fb_ct_le c i
    exact (decide_eq_false (by omega)).symm
  · have a : fb_ct c (i + 1) = i + 1 := fb_ct_all.mpr (fun k hk => h k i (by omega) hi e)
    have b := fb_ct_mono c (show i + 1 ≤ n by omega)
    exact (decide_eq_true (by omega)).symm
def gdB (W : WD) (fr to st w : Nat) : Bool := (hoS (wN W) (gN W) (hdT W st (nI w)) fr to).isSome
def hvT (W : WD) (fr to st : Nat) : Nat := fb_ct (gdB W fr to st) 1000
theorem hd_mono {W : WD} (R : rng W) (hr : Int32) {u v : Nat} (h : u ≤ v) (hv : v < 2000) : le32 (hdS W hr (nI v)) (hdS W hr (nI u)) := fun i hi b => by
  have hN := pN_le R
  unfold hdS at *
  rw [bt_bs (by omega) _ hi, Bool.and_eq_true] at *
  refine ⟨b.1, ?_⟩
  have b2 := b.2
  unfold hlB at *
  rw [Bool.and_eq_true, decide_eq_true_eq, i_le] at *
  refine ⟨b2.1, ?_⟩
  have l := loadS_b R (nI i) hr
  unfold bd at l
  have c := b2.2
  rw [fb_addI (by rw [nI_toInt (by omega)]; omega) (by rw [nI_toInt (by omega)]; omega), nI_toInt (by omega)] at *
  omega
theorem gd_anti {W : WD} (R : rng W) {fr to st : Nat} (hto : to < pN W) {w : Nat} (hw : w < 1000) : gdB W fr to st w = decide (w < hvT W fr to st) := by
  have hN := pN_le R
  have a := R.1.1.2
  have b := R.1.2.1.2
  refine anti_ct (fun i j hij hj q => ?_) hw
  exact ho_mono (by omega) (by omega) a.1 hN (fun t => sub_hd W R _ _) (fun t => sub_hd W R _ _) (by omega) (fun t => hd_mono R _ hij (by omega)) q
theorem hvT_le (W : WD) (fr to st : Nat) : hvT W fr to st ≤ 1000 := fb_ct_le _ _
def heavV (W : WD) (x y z : Int32) : Int32 := nI (hvT W x.toNatClampNeg y.toNatClampNeg z.toNatClampNeg) - 1
theorem pm1 {a : Nat} (h : a < 2 ^ 30) : (nI a - 1).toInt = (a : Int) - 1 := pk_sub_toInt (b := 1) h (by omega)
theorem mid_e {lo hi : Nat} (h : lo < hi) (hh : hi ≤ 1000) : (nI lo - 1 + nI hi) / 2 = nI ((lo + hi - 1) / 2) := by
  have : nI lo - 1 + nI hi = nI (lo + hi - 1) := by
    apply Int32.toInt_inj.mp
    have a := pm1 (a := lo) (by omega)
    have b := nI_toInt (n := hi) (by omega)
    rw [nI_toInt (by omega), fb_addI (by omega) (by omega), a, b]
    omega
  rw [this]
  exact pk_div (d := 2) (by omega) (by omega) (by omega)
theorem gap_e {lo hi : Nat} (h : lo ≤ 1000) (hh : hi ≤ 1000) : (nI hi - (nI lo - 1) ≤ 1) = (hi ≤ lo) := by
  have a := pm1 (a := lo) (by omega)
  have b := nI_toInt (n := hi) (by omega)
  have c : (1 : Int32).toInt = 1 := by decide
  apply propext
  rw [i_le, fb_subI (by omega) (by omega), a, b, c]
  omega
section MHeav
variable {h : mH} {m : Nat → Int32} {W : WD}
theorem mhv_loop (O : mO) (d : Nat) (H : MS h m W) (R : rng W) {v0 : Nat → Int32} (e7 : h.1[77]? = some (aI 49 v0)) {fr to st : Nat} (hfr : fr < pN W) (hto : to < pN W) (hst : st < 24) : ∀ (n lo hi : Nat) (f : Nat → Int32) (v : Value), hi - lo ≤ n → lo ≤ hvT W fr to st → hvT W fr to st ≤ hi → hi ≤ 1000 → ∃ f', ev O (d + 6) 234 51 [.ref 66, .int (nI fr), .int (nI to), .int (nI st), .int (nI lo - 1), .int (nI hi), v] [] (hR h f) = some (.inl (some (.int (nI (hvT W fr to st) - 1))), hR h f') := by
  intro n
  induction n with
  | zero =>
    intro lo hi f v hn h1 h2 h3
    have e : lo = hvT W fr to st := by omega
    refine ⟨f, ?_⟩
    rw [e_234_51, ← e]
    simp only [e_234_0, e_234_1, e_234_2, e_234_5, e_234_6, e_234_7, e_234_8, e_234_11, e_234_14, e_234_15, e_234_16, e_234_19, e_234_22, e_234_23, e_234_26, e_234_29, e_234_30, e_234_33, e_234_34, e_234_35, e_234_38, e_234_41, e_234_42, e_234_43, e_234_44, e_234_46, e_234_49, e_234_53, e_234_55, e_234_56, e_234_57, e_234_60, e_234_62, e_234_64, e_234_65, e_234_66, e_234_67, e_234_69, e_234_70, e_234_71, e_234_72, e_234_73, e_234_75, e_234_78, e_234_81, e_234_83, e_234_85, e_234_88, e_234_90, e_234_92, e_234_95, e_234_97, Option.bind_some, Option.bind_none, m_kt, m_kn, Option.toList_some, Option.toList_none, List.nil_append, List.cons_append, List.append_nil, ltn, ite_not, ↓reduceIte, true_or, or_true, nP1, oI_s, oI_n, bI_f, bI_t, i1_0, i0_0, Bool.false_eq_true, not_true_eq_false, not_false_eq_true, gap_e (show lo ≤ 1000 by omega) h3, (show hi ≤ lo by omega)]
  | succ n ih =>
    intro lo hi f v hn h1 h2 h3
    by_cases c : hi ≤ lo
    · have e : lo = hvT W fr to st := by omega
      refine ⟨f, ?_⟩
      rw [e_234_51, ← e]
      simp only [e_234_0, e_234_1, e_234_2, e_234_5, e_234_6, e_234_7, e_234_8, e_234_11, e_234_14, e_234_15, e_234_16, e_234_19, e_234_22, e_234_23, e_234_26, e_234_29, e_234_30, e_234_33, e_234_34, e_234_35, e_234_38, e_234_41, e_234_42, e_234_43, e_234_44, e_234_46, e_234_49, e_234_53, e_234_55, e_234_56, e_234_57, e_234_60, e_234_62, e_234_64, e_234_65, e_234_66, e_234_67, e_234_69, e_234_70, e_234_71, e_234_72, e_234_73, e_234_75, e_234_78, e_234_81, e_234_83, e_234_85, e_234_88, e_234_90, e_234_92, e_234_95, e_234_97, Option.bind_some, Option.bind_none, m_kt, m_kn, Option.toList_some, Option.toList_none, List.nil_append, List.cons_append, List.append_nil, ltn, ite_not, ↓reduceIte, true_or, or_true, nP1, oI_s, oI_n, bI_f, bI_t, i1_0, i0_0, Bool.false_eq_true, not_true_eq_false, not_false_eq_true, gap_e (show lo ≤ 1000 by omega) h3, c]
    · obtain ⟨f1, eh⟩ := hours_ev O d (H.hR f) R (hR_at e7 f) hfr hto hst (nI ((lo + hi - 1) / 2))
      rw [hR_hR] at eh
      have gd := gd_anti R (fr := fr) (st := st) hto (w := (lo + hi - 1) / 2) (by omega)
      unfold gdB at gd
      rw [e_234_51]
      cases e : hoS (wN W) (gN W) (hdT W st (nI ((lo + hi - 1) / 2))) fr to with
      | none =>
        rw [e] at gd eh
        have gd := of_decide_eq_false gd.symm
        simp only [e_234_0, e_234_1, e_234_2, e_234_5, e_234_6, e_234_7, e_234_8, e_234_11, e_234_14, e_234_15, e_234_16, e_234_19, e_234_22, e_234_23, e_234_26, e_234_29, e_234_30, e_234_33, e_234_34, e_234_35, e_234_38, e_234_41, e_234_42, e_234_43, e_234_44, e_234_46, e_234_49, e_234_53, e_234_55, e_234_56, e_234_57, e_234_60, e_234_62, e_234_64, e_234_65, e_234_66, e_234_67, e_234_69, e_234_70, e_234_71, e_234_72, e_234_73, e_234_75, e_234_78, e_234_81, e_234_83, e_234_85, e_234_88, e_234_90, e_234_92, e_234_95, e_234_97, Option.bind_some, Option.bind_none, m_kt, m_kn, Option.toList_some, Option.toList_none, List.nil_append, List.cons_append, List.append_nil, ltn, ite_not, ↓reduceIte, true_or, or_true, nP1, oI_s, oI_n, bI_f, bI_t, i1_0, i0_0, Bool.false_eq_true, not_true_eq_false, not_false_eq_true, gap_e (show lo ≤ 1000 by omega) h3, c, mid_e (show lo < hi by omega) h3, z2, (H.hR f).isc, eh, m1_0]
        exact ih lo ((lo + hi - 1) / 2) f1 _ (by omega) h1 (by omega) (by omega)
      | some k =>
        rw [e] at gd eh
        obtain ⟨kl, -, -⟩ := fd_some e
        have gd := of_decide_eq_true gd.symm
        simp only [e_234_0, e_234_1, e_234_2, e_234_5, e_234_6, e_234_7, e_234_8, e_234_11, e_234_14, e_234_15, e_234_16, e_234_19, e_234_22, e_234_23, e_234_26, e_234_29, e_234_30, e_234_33, e_234_34, e_234_35, e_234_38, e_234_41, e_234_42, e_234_43, e_234_44, e_234_46, e_234_49, e_234_53, e_234_55, e_234_56, e_234_57, e_234_60, e_234_62, e_234_64, e_234_65, e_234_66, e_234_67, e_234_69, e_234_70, e_234_71, e_234_72, e_234_73, e_234_75, e_234_78, e_234_81, e_234_83, e_234_85, e_234_88, e_234_90, e_234_92, e_234_95, e_234_97, Option.bind_some, Option.bind_none, m_kt, m_kn, Option.toList_some, Option.toList_none, List.nil_append, List.cons_append, List.append_nil, ltn, ite_not, ↓reduceIte, true_or, or_true, nP1, oI_s, oI_n, bI_f, bI_t, i1_0, i0_0, Bool.false_eq_true, not_true_eq_false, not_false_eq_true, gap_e (show lo ≤ 1000 by omega) h3, c, mid_e (show lo < hi by omega) h3, z2, (H.hR f).isc, eh, n0le (show k < 2 ^ 31 by omega)]
        have := ih ((lo + hi - 1) / 2 + 1) hi f1 (.int (nI ((lo + hi - 1) / 2))) (by omega) (by omega) h2 h3
        rw [nI_pred] at this
        exact this
def codeH (W : WD) (x y z : Int32) : Nat := if (nPa W x && nPa W y && inB z 0 23) = true then 0 else 1
theorem Mheaviest_ev (O : mO) (d : Nat) (H : MS h m W) (R : rng W) (S : SH h) (x y z : Int32) : MA (ev O (d + 6) 234 0 [.ref 66, .int x, .int y, .int z, mJ, mJ, mJ] [] h) h m (nI (codeH W x y z)) (.int (if codeH W x y z = 0 then heavV W x y z else 0)) := by
  have H0 := H.t 0
  have hN := pN_le R
  unfold codeH nPa
  cases c1 : (inB x 0 (nI (pN W) - 1) && inB y 0 (nI (pN W) - 1) && inB z 0 23)
  · refine ⟨tH h m 1, ?_, sc.rf _⟩
    cases a1 : inB x 0 (nI (pN W) - 1)
    · simp only [e_234_0, e_234_1, e_234_2, e_234_5, e_234_6, e_234_7, e_234_8, e_234_11, e_234_14, e_234_15, e_234_16, e_234_19, e_234_22, e_234_23, e_234_26, e_234_29, e_234_30, e_234_33, e_234_34, e_234_35, e_234_38, e_234_41, e_234_42, e_234_43, e_234_44, e_234_46, e_234_49, e_234_51, e_234_53, e_234_55, e_234_56, e_234_57, e_234_60, e_234_62, e_234_64, e_234_65, e_234_66, e_234_67, e_234_69, e_234_70, e_234_71, e_234_72, e_234_73, e_234_75, e_234_78, e_234_81, e_234_83, e_234_85, e_234_88, e_234_90, e_234_92, e_234_95, e_234_97, Option.bind_some, Option.bind_none, m_kt, m_kn, Option.toList_some, Option.toList_none, List.nil_append, List.cons_append, List.append_nil, ltn, ite_not, ↓reduceIte, true_or, or_true, nP1, oI_s, oI_n, bI_f, bI_t, i1_0, i0_0, Bool.false_eq_true, not_true_eq_false, not_false_eq_true, nI_0, m1m1, Nat.one_ne_zero, two_ne0, pMt H, H0.isc, noPane_ev O _ H0.w R, noHour_ev, noSeer_ev O _ H0.w, in_ev, Bool.not_false, Bool.not_true, bI_f, bI_t, thr0_ev O _ H0, thr1_ev O _ H0, i1_0, i0_0, z01, o01, tH_tH, Bool.false_eq_true, a1]
    · cases a2 : inB y 0 (nI (pN W) - 1)
      · simp only [e_234_0, e_234_1, e_234_2, e_234_5, e_234_6, e_234_7, e_234_8, e_234_11, e_234_14, e_234_15, e_234_16, e_234_19, e_234_22, e_234_23, e_234_26, e_234_29, e_234_30, e_234_33, e_234_34, e_234_35, e_234_38, e_234_41, e_234_42, e_234_43, e_234_44, e_234_46, e_234_49, e_234_51, e_234_53, e_234_55, e_234_56, e_234_57, e_234_60, e_234_62, e_234_64, e_234_65, e_234_66, e_234_67, e_234_69, e_234_70, e_234_71, e_234_72, e_234_73, e_234_75, e_234_78, e_234_81, e_234_83, e_234_85, e_234_88, e_234_90, e_234_92, e_234_95, e_234_97, Option.bind_some, Option.bind_none, m_kt, m_kn, Option.toList_some, Option.toList_none, List.nil_append, List.cons_append, List.append_nil, ltn, ite_not, ↓reduceIte, true_or, or_true, nP1, oI_s, oI_n, bI_f, bI_t, i1_0, i0_0, Bool.false_eq_true, not_true_eq_false, not_false_eq_true, nI_0, m1m1, Nat.one_ne_zero, two_ne0, pMt H, H0.isc, noPane_ev O _ H0.w R, noHour_ev, noSeer_ev O _ H0.w, in_ev, Bool.not_false, Bool.not_true, bI_f, bI_t, thr0_ev O _ H0, thr1_ev O _ H0, i1_0, i0_0, z01, o01, tH_tH, Bool.false_eq_true, a1, a2]
      · have a3 : inB z 0 23 = false := by rw [a1, a2] at c1; simpa using c1
        simp only [e_234_0, e_234_1, e_234_2, e_234_5, e_234_6, e_234_7, e_234_8, e_234_11, e_234_14, e_234_15, e_234_16, e_234_19, e_234_22, e_234_23, e_234_26, e_234_29, e_234_30, e_234_33, e_234_34, e_234_35, e_234_38, e_234_41, e_234_42, e_234_43, e_234_44, e_234_46, e_234_49, e_234_51, e_234_53, e_234_55, e_234_56, e_234_57, e_234_60, e_234_62, e_234_64, e_234_65, e_234_66, e_234_67, e_234_69, e_234_70, e_234_71, e_234_72, e_234_73, e_234_75, e_234_78, e_234_81, e_234_83, e_234_85, e_234_88, e_234_90, e_234_92, e_234_95, e_234_97, Option.bind_some, Option.bind_none, m_kt, m_kn, Option.toList_some, Option.toList_none, List.nil_append, List.cons_append, List.append_nil, ltn, ite_not, ↓reduceIte, true_or, or_true, nP1, oI_s, oI_n, bI_f, bI_t, i1_0, i0_0, Bool.false_eq_true, not_true_eq_false, not_false_eq_true, nI_0, m1m1, Nat.one_ne_zero, two_ne0, pMt H, H0.isc, noPane_ev O _ H0.w R, noHour_ev, noSeer_ev O _ H0.w, in_ev, Bool.not_false, Bool.not_true, bI_f, bI_t, thr0_ev O _ H0, thr1_ev O _ H0, i1_0, i0_0, z01, o01, tH_tH, Bool.false_eq_true, a1, a2, a3]
  · simp only [Bool.and_eq_true] at c1
    obtain ⟨⟨a1, a2⟩, a3⟩ := c1
    have b1 := a1
    have b2 := a2
    have b3 := a3
    obtain ⟨fr, hfr, rfl⟩ := inB_ix (by omega) a1
    obtain ⟨to, hto, rfl⟩ := inB_ix (by omega) a2
    obtain ⟨st, hst, rfl⟩ := inB_h a3
    obtain ⟨v0, e7⟩ := (SH_tH S m 0).at (b := 77) (n := 49) (by decide)
    obtain ⟨f', e⟩ := mhv_loop O d H0 R e7 hfr hto hst 1000 0 1000 v0 mJ (by omega) (by omega) (hvT_le _ _ _ _) (by omega)
    rw [hR_id e7, show nI 0 - 1 = -1 from by decide, show nI 1000 = 1000 from rfl] at e
    unfold heavV
    rw [nI_clamp (show fr < 2 ^ 31 by omega), nI_clamp (show to < 2 ^ 31 by omega), nI_clamp (show st < 2 ^ 31 by omega)]
    refine ⟨_, ?_, sc_hR f'⟩
    simp only [e_234_0, e_234_1, e_234_2, e_234_5, e_234_6, e_234_7, e_234_8, e_234_11, e_234_14, e_234_15, e_234_16, e_234_19, e_234_22, e_234_23, e_234_26, e_234_29, e_234_30, e_234_33, e_234_34, e_234_35, e_234_38, e_234_41, e_234_42, e_234_43, e_234_44, e_234_46, e_234_49, e_234_53, e_234_55, e_234_56, e_234_57, e_234_60, e_234_62, e_234_64, e_234_65, e_234_66, e_234_67, e_234_69, e_234_70, e_234_71, e_234_72, e_234_73, e_234_75, e_234_78, e_234_81, e_234_83, e_234_85, e_234_88, e_234_90, e_234_92, e_234_95, e_234_97, Option.bind_some, Option.bind_none, m_kt, m_kn, Option.toList_some, Option.toList_none, List.nil_append, List.cons_append, List.append_nil, ltn, ite_not, ↓reduceIte, true_or, or_true, nP1, oI_s, oI_n, bI_f, bI_t, i1_0, i0_0, Bool.false_eq_true, not_true_eq_false, not_false_eq_true, nI_0, m1m1, Nat.one_ne_zero, two_ne0, pMt H, H0.isc, noPane_ev O _ H0.w R, noHour_ev, noSeer_ev O _ H0.w, in_ev, Bool.not_false, Bool.not_true, bI_f, bI_t, thr0_ev O _ H0, thr1_ev O _ H0, i1_0, i0_0, z01, o01, tH_tH, Bool.false_eq_true, b1, b2, b3, e]
end MHeav
section GHeav
variable {h : mH} {a : Nat} {W : WD}
theorem hv_loop (O : mO) (d : Nat) (ha : a < 28) (R : rng W) {fr to st : Nat} {L B BT OT : Nat → Int32} (hfr : fr < pN W) (hto : to < pN W) (hst : st < 24) (LKH : LK W L B BT) : ∀ (j w : Nat) (h : mH) (OP : Nat → Int32), CA h a W → WK h (nI fr) (nI to) (nI st) L B BT OP OT → j ≤ 9 → w ≤ hvT W fr to st → hvT W fr to st < w + 2 ^ (j + 1) → ∃ h' OP', ev O (d + 3) 98 6 [.ref 56, .ref a, .int (nI w - 1), .int (nI (2 ^ j))] [] h = some (.inl (some (.int (nI (hvT W fr to st) - 1))), h') ∧ out WS h h' ∧ WK h' (nI fr) (nI to) (nI st) L B BT OP' OT := by
  have hT := hvT_le W fr to st
  -- one step: the weight behind it
  have step : ∀ (j w : Nat) (h : mH) (OP : Nat → Int32), CA h a W → WK h (nI fr) (nI to) (nI st) L B BT OP OT → j ≤ 9 → w ≤ hvT W fr to st → hvT W fr to st < w + 2 ^ (j + 1) → ∃ h' OP' w', ev O (d + 3) 98 6 [.ref 56, .ref a, .int (nI w - 1), .int (nI (2 ^ j))] [] h = ev O (d + 3) 98 35 [.ref 56, .ref a, .int (nI w' - 1), .int (nI (2 ^ j))] [] h' ∧ out WS h h' ∧ WK h' (nI fr) (nI to) (nI st) L B BT OP' OT ∧ w' ≤ hvT W fr to st ∧ hvT W fr to st < w' + 2 ^ j := by
    intro j w h OP H K hj h1 h2
    have p1 : 1 ≤ 2 ^ j := Nat.one_le_two_pow
    have p2 : 2 ^ j ≤ 2 ^ 9 := Nat.pow_le_pow_right (by omega) hj
    have p3 : 2 ^ (j + 1) = 2 ^ j * 2 := Nat.pow_succ 2 j
    generalize hq : 2 ^ j = q at *
    have z0 : (nI q ≤ 0) = False := by rw [nle0 (by omega)]; simp; omega
    have es : nI w - 1 + nI q = nI (w + q - 1) := by
      apply Int32.toInt_inj.mp
      have a := pm1 (a := w) (by omega)
      have b := nI_toInt (n := q) (by omega)
      rw [nI_toInt (by omega), fb_addI (by omega) (by omega), a, b]
      omega
    have c999 : (nI (w + q - 1) ≤ 999) = (w + q ≤ 1000) := by
      have := nLe (a := w + q - 1) (b := 999) (by omega) (by omega)
      rw [show nI 999 = 999 from rfl] at this
      rw [this]; apply propext; omega
    by_cases c : w + q ≤ 1000
    · have bw : bd 0 999 (nI (w + q - 1)) := by unfold bd; rw [nI_toInt (by omega)]; omega
      obtain ⟨h', OP', eh, F, K', -⟩ := hoursWith_ev O d H ha R K hfr hto hst LKH bw
      have gd := gd_anti R (fr := fr) (st := st) hto (w := w + q - 1) (by omega)
      unfold gdB at gd
      cases e : hoS (wN W) (gN W) (hdT W st (nI (w + q - 1))) fr to with
      | none =>
        rw [e] at gd eh
        have gd := of_decide_eq_false gd.symm
        refine ⟨h', OP', w, ?_, F, K', h1, by omega⟩
        rw [e_98_6]
        simp only [e_98_0, e_98_1, e_98_2, e_98_5, e_98_7, e_98_10, e_98_11, e_98_12, e_98_13, e_98_16, e_98_19, e_98_20, e_98_21, e_98_22, e_98_23, e_98_24, e_98_27, e_98_28, e_98_31, e_98_32, e_98_33, e_98_34, e_98_36, e_98_37, e_98_38, e_98_39, e_98_42, e_98_43, Option.bind_some, Option.bind_none, m_kt, m_kn, Option.toList_some, Option.toList_none, List.nil_append, List.cons_append, List.append_nil, ltn, ite_not, ↓reduceIte, true_or, or_true, nP1, oI_s, oI_n, bI_f, bI_t, i1_0, i0_0, Bool.false_eq_true, not_true_eq_false, not_false_eq_true, z0, es, c999, c, W_isc K.1, eh]
      | some k =>
        rw [e] at gd eh
        obtain ⟨kl, -, -⟩ := fd_some e
        have gd := of_decide_eq_true gd.symm
        refine ⟨h', OP', w + q, ?_, F, K', by omega, by omega⟩
        have ew : nI (w + q) - 1 = nI (w + q - 1) := by rw [n_1, pk_sub (by omega)]
        rw [e_98_6, ew]
        simp only [e_98_0, e_98_1, e_98_2, e_98_5, e_98_7, e_98_10, e_98_11, e_98_12, e_98_13, e_98_16, e_98_19, e_98_20, e_98_21, e_98_22, e_98_23, e_98_24, e_98_27, e_98_28, e_98_31, e_98_32, e_98_33, e_98_34, e_98_36, e_98_37, e_98_38, e_98_39, e_98_42, e_98_43, Option.bind_some, Option.bind_none, m_kt, m_kn, Option.toList_some, Option.toList_none, List.nil_append, List.cons_append, List.append_nil, ltn, ite_not, ↓reduceIte, true_or, or_true, nP1, oI_s, oI_n, bI_f, bI_t, i1_0, i0_0, Bool.false_eq_true, not_true_eq_false, not_false_eq_true, z0, es, c999, c, W_isc K.1, eh, nm1 (show k < 2 ^ 31 by omega)]
    · refine ⟨h, OP, w, ?_, out.rf _ _, K, h1, by omega⟩
      rw [e_98_6]
      simp only [e_98_0, e_98_1, e_98_2, e_98_5, e_98_7, e_98_10, e_98_11, e_98_12, e_98_13, e_98_16, e_98_19, e_98_20, e_98_21, e_98_22, e_98_23, e_98_24, e_98_27, e_98_28, e_98_31, e_98_32, e_98_33, e_98_34, e_98_36, e_98_37, e_98_38, e_98_39, e_98_42, e_98_43, Option.bind_some, Option.bind_none, m_kt, m_kn, Option.toList_some, Option.toList_none, List.nil_append, List.cons_append, List.append_nil, ltn, ite_not, ↓reduceIte, true_or, or_true, nP1, oI_s, oI_n, bI_f, bI_t, i1_0, i0_0, Bool.false_eq_true, not_true_eq_false, not_false_eq_true, z0, es, c999, c]
  intro j
  induction j with
  | zero =>
    intro w h OP H K hj h1 h2
    obtain ⟨h', OP', w', e, F, K', h3, h4⟩ := step 0 w h OP H K hj h1 h2
    refine ⟨h', OP', e.trans ?_, F, K'⟩
    have : w' = hvT W fr to st := by simp only [Nat.pow_zero] at h4; omega
    rw [this]
    simp only [e_98_0, e_98_1, e_98_2, e_98_5, e_98_7, e_98_10, e_98_11, e_98_12, e_98_13, e_98_16, e_98_19, e_98_20, e_98_21, e_98_22, e_98_23, e_98_24, e_98_27, e_98_28, e_98_31, e_98_32, e_98_33, e_98_34, e_98_35, e_98_36, e_98_37, e_98_38, e_98_39, e_98_42, e_98_43, Option.bind_some, Option.bind_none, m_kt, m_kn, Option.toList_some, Option.toList_none, List.nil_append, List.cons_append, List.append_nil, ltn, ite_not, ↓reduceIte, true_or, or_true, nP1, oI_s, oI_n, bI_f, bI_t, i1_0, i0_0, Bool.false_eq_true, not_true_eq_false, not_false_eq_true, z2, (show nI (2 ^ 0) / 2 = 0 by decide)]
    rw [e_98_6]
    simp only [e_98_0, e_98_1, e_98_2, e_98_5, e_98_7, e_98_10, e_98_11, e_98_12, e_98_13, e_98_16, e_98_19, e_98_20, e_98_21, e_98_22, e_98_23, e_98_24, e_98_27, e_98_28, e_98_31, e_98_32, e_98_33, e_98_34, e_98_35, e_98_36, e_98_37, e_98_38, e_98_39, e_98_42, e_98_43, Option.bind_some, Option.bind_none, m_kt, m_kn, Option.toList_some, Option.toList_none, List.nil_append, List.cons_append, List.append_nil, ltn, ite_not, ↓reduceIte, true_or, or_true, nP1, oI_s, oI_n, bI_f, bI_t, i1_0, i0_0, Bool.false_eq_true, not_true_eq_false, not_false_eq_true, Int32.le_refl]
  | succ j ih =>
    intro w h OP H K hj h1 h2
    obtain ⟨h', OP', w', e, F, K', h3, h4⟩ := step (j + 1) w h OP H K hj h1 h2
    obtain ⟨h'', OP'', e2, F2, K''⟩ := ih w' h' OP' (CA_ws H ha F) K' (by omega) h3 h4
    refine ⟨h'', OP'', e.trans (Eq.trans ?_ e2), F.tr1 F2, K''⟩
    have p2 : 2 ^ (j + 1) ≤ 2 ^ 9 := Nat.pow_le_pow_right (by omega) hj
    have ed : nI (2 ^ (j + 1)) / 2 = nI (2 ^ j) := by
      have := pk_div (a := 2 ^ (j + 1)) (d := 2) (by omega) (by omega) (by omega)
      rw [show nI 2 = 2 from rfl] at this
      rw [this, Nat.pow_succ, Nat.mul_div_cancel _ (by omega)]
    simp only [e_98_0, e_98_1, e_98_2, e_98_5, e_98_7, e_98_10, e_98_11, e_98_12, e_98_13, e_98_16, e_98_19, e_98_20, e_98_21, e_98_22, e_98_23, e_98_24, e_98_27, e_98_28, e_98_31, e_98_32, e_98_33, e_98_34, e_98_35, e_98_36, e_98_37, e_98_38, e_98_39, e_98_42, e_98_43, Option.bind_some, Option.bind_none, m_kt, m_kn, Option.toList_some, Option.toList_none, List.nil_append, List.cons_append, List.append_nil, ltn, ite_not, ↓reduceIte, true_or, or_true, nP1, oI_s, oI_n, bI_f, bI_t, i1_0, i0_0, Bool.false_eq_true, not_true_eq_false, not_false_eq_true, z2, ed]
theorem Gheaviest_ev {g : gT} (O : mO) (d : Nat) (C : CG h g W) (x y z : Int32) : GA (ev O (d + 4) 130 0 [.ref 0, .int x, .int y, .int z] [] h) h (if codeH W x y z = 1 then some 1 else none) (.int (heavV W x y z)) := by
  obtain ⟨G, H, ga, R, S⟩ := C
  have hN := pN_le R
  have hcw := checkWay_ev O (d + 2) G H R x y z
  unfold codeH
  cases c1 : (nPa W x && nPa W y && inB z 0 23)
  · simp only [Bool.false_eq_true, ↓reduceIte]
    unfold nPa at c1
    rw [c1] at hcw
    show _ = _
    simp only [e_130_0, e_130_1, e_130_2, e_130_3, e_130_4, e_130_7, e_130_8, e_130_11, e_130_12, e_130_15, e_130_16, e_130_17, e_130_18, e_130_21, e_130_22, e_130_25, e_130_26, e_130_29, e_130_32, Option.bind_some, Option.bind_none, m_kt, m_kn, Option.toList_some, Option.toList_none, List.nil_append, List.cons_append, List.append_nil, ltn, ite_not, ↓reduceIte, true_or, or_true, nP1, oI_s, oI_n, bI_f, bI_t, i1_0, i0_0, Bool.false_eq_true, not_true_eq_false, not_false_eq_true, iscG G, hcw]
  · unfold nPa at c1
    rw [c1] at hcw
    simp only [↓reduceIte, Nat.zero_ne_one]
    simp only [Bool.and_eq_true] at c1
    obtain ⟨fr, hfr, rfl⟩ := inB_ix (by omega) c1.1.1
    obtain ⟨to, hto, rfl⟩ := inB_ix (by omega) c1.1.2
    obtain ⟨st, hst, rfl⟩ := inB_h c1.2
    obtain ⟨f, t, s, L, B, BT, OP, OT, K⟩ := SH_WK S
    obtain ⟨h1, L1, B1, BT1, el, F1, K1, lk1, lk2⟩ := look_ev O (d + 1) H (by omega) R K (nI fr) (nI to) (nI st)
    have H1 := CA_ws H (by omega) F1
    have G1 : h1.1[0]? = some (oG g) := (F1.2.2 0 (by unfold WS; omega)).trans G
    obtain ⟨h2, OP2, eh, F2, K2⟩ := hv_loop O d (by omega) R hfr hto hst ⟨lk1, lk2⟩ 9 0 h1 OP H1 K1 (by omega) (by omega) (by have := hvT_le W fr to st; omega)
    rw [show nI 0 - 1 = -1 from by decide, show nI (2 ^ 9) = 512 from rfl] at eh
    unfold heavV
    rw [nI_clamp (show fr < 2 ^ 31 by omega), nI_clamp (show to < 2 ^ 31 by omega), nI_clamp (show st < 2 ^ 31 by omega)]
    refine ⟨h2, ?_, (sc_ws F1 K1).tr (sc_ws F2 K2)⟩
    simp only [e_130_0, e_130_1, e_130_2, e_130_3, e_130_4, e_130_7, e_130_8, e_130_11, e_130_12, e_130_15, e_130_16, e_130_17, e_130_18, e_130_21, e_130_22, e_130_25, e_130_26, e_130_29, e_130_32, e_98_0, e_98_1, e_98_2, e_98_5, e_98_7, e_98_10, e_98_11, e_98_12, e_98_13, e_98_16, e_98_19, e_98_20, e_98_21, e_98_22, e_98_23, e_98_24, e_98_27, e_98_28, e_98_31, e_98_32, e_98_33, e_98_34, e_98_35, e_98_36, e_98_37, e_98_38, e_98_39, e_98_42, e_98_43, Option.bind_some, Option.bind_none, m_kt, m_kn, Option.toList_some, Option.toList_none, List.nil_append, List.cons_append, List.append_nil, ltn, ite_not, ↓reduceIte, true_or, or_true, nP1, oI_s, oI_n, bI_f, bI_t, i1_0, i0_0, Bool.false_eq_true, not_true_eq_false, not_false_eq_true, iscG G, hcw, gG9 G, gG0 G, W_isc K.1, el, gG9 G1, gG0 G1, W_isc K1.1, eh]
end GHeav
