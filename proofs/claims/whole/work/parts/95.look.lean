/-! The class looks at a way; how it agrees with the reference's hours -/
def hW (h : mH) (x y z : Int32) : mH := (h.1.set 56 (oWk x y z), h.2)
theorem hW_at {h : mH} {f t s : Int32} (e : h.1[56]? = some (oWk f t s)) (x y z : Int32) : (hW h x y z).1[56]? = some (oWk x y z) := hget e
theorem hW_p0 {h : mH} {f t s : Int32} (e : h.1[56]? = some (oWk f t s)) (x : Int32) : m_pf h 56 6 0 (.int x) = some (hW h x t s) := pW0 e x
theorem hW_p1 {h : mH} {f t s : Int32} (e : h.1[56]? = some (oWk f t s)) (x t' s' y : Int32) : m_pf (hW h x t' s') 56 6 1 (.int y) = some (hW h x y s') := by
  rw [pW1 (hW_at e x t' s') y]; unfold hW; rw [List.set_set]
theorem hW_p2 {h : mH} {f t s : Int32} (e : h.1[56]? = some (oWk f t s)) (x y s' z : Int32) : m_pf (hW h x y s') 56 6 2 (.int z) = some (hW h x y z) := by
  rw [pW2 (hW_at e x y s') z]; unfold hW; rw [List.set_set]
def hB (h : mH) (s : (Nat → Int32) × (Nat → Int32)) : mH := ((h.1.set 58 (aI 30 s.1)).set 59 (aI 30 s.2), h.2)
def vB (W : WD) (p : Nat) : Int32 := if brk W p = true then -1 else bea W p
def vT (W : WD) (p : Nat) : Int32 := if brk W p = true then -1 else beaT W p 9
theorem out2 {A : Nat → Prop} (h : mH) {a b : Nat} (c e : mC) (ha : A a) (hb : A b) : out A h ((h.1.set a c).set b e, h.2) := (out.st h c ha).tr1 (out.st (h.1.set a c, h.2) e hb)
section Look
variable {h : mH} {a : Nat} {W : WD}
theorem look2 (O : mO) (d : Nat) (H : CA h a W) (ha : a < 28) (R : rng W) {x y z : Int32} (e6 : h.1[56]? = some (oWk x y z)) {B BT : Nat → Int32} (e8 : h.1[58]? = some (aI 30 B)) (e9 : h.1[59]? = some (aI 30 BT)) (v : Value) : ∃ s : (Nat → Int32) × (Nat → Int32), (∀ p, p < pN W → s.1 p = vB W p ∧ s.2 p = vT W p) ∧ ev O (d + 2) 90 52 [.ref 56, .ref a, .int x, .int y, .int z, .int 0, v] [] h = some (.inl none, hB h s) := by
  have hN := pN_le R
  have F : ∀ s, out WS h (hB h s) := fun s => out2 h _ _ (by unfold WS; omega) (by unfold WS; omega)
  have H1 : ∀ s, CA (hB h s) a W := fun s => CA_ws H ha (F s)
  have g6 : ∀ s, (hB h s).1[56]? = some (oWk x y z) := fun s => ((hne (by decide)).trans (hne (by decide))).trans e6
  have g8 : ∀ s, (hB h s).1[58]? = some (aI 30 s.1) := fun s => (hne (by decide)).trans (hget e8)
  have g9 : ∀ s, (hB h s).1[59]? = some (aI 30 s.2) := fun s => hget (c := aI 30 BT) ((hne (by decide)).trans e9)
  have s8 : ∀ s i x, i < 30 → m_si (hB h s) 58 (nI i) x = some (hB h (upd s.1 i x, s.2)) := fun s i x hi => by
    rw [si_n (g8 s) hi (by decide)]
    unfold hB
    rw [List.set_comm _ _ (show (59 : Nat) ≠ 58 by decide), List.set_set]
  have s9 : ∀ s i x, i < 30 → m_si (hB h s) 59 (nI i) x = some (hB h (s.1, upd s.2 i x)) := fun s i x hi => by
    rw [si_n (g9 s) hi (by decide)]
    unfold hB
    rw [List.set_set]
  have e := lp_runVI (ν := Value) (fun i (s : (Nat → Int32) × (Nat → Int32)) => ∀ p, p < i → s.1 p = vB W p ∧ s.2 p = vT W p) (F := fun i s v => ev O (d + 2) 90 52 [.ref 56, .ref a, .int x, .int y, .int z, .int (nI i), v] [] (hB h s)) (f := fun i s => (upd s.1 i (vB W i), upd s.2 i (vT W i))) (n := pN W) (s := (B, BT)) (fun p hp => by omega) (fun i s v hi I => by
    have h1 : ¬ nI (pN W) ≤ nI i := nI_ge hi (by omega)
    have hi3 : i < 30 := by omega
    refine ⟨fun p hp => ?_, ?_⟩
    · by_cases c : p = i
      · subst c; exact ⟨pk_us, pk_us⟩
      · exact ⟨(pk_un c).trans (I p (by omega)).1, (pk_un c).trans (I p (by omega)).2⟩
    · rw [e_90_52]
      have v1 : vB W i = if brk W i = true then -1 else bea W i := rfl
      have v2 : vT W i = if brk W i = true then -1 else beaT W i 9 := rfl
      cases hb : brk W i
      · rw [hb] at v1 v2
        simp only [Bool.false_eq_true, ↓reduceIte] at v1 v2
        simp only [e_90_0, e_90_1, e_90_2, e_90_5, e_90_6, e_90_7, e_90_10, e_90_11, e_90_13, e_90_16, e_90_17, e_90_20, e_90_21, e_90_24, e_90_25, e_90_27, e_90_29, e_90_30, e_90_33, e_90_36, e_90_37, e_90_38, e_90_40, e_90_43, e_90_46, e_90_49, e_90_50, e_90_54, e_90_55, e_90_58, e_90_61, e_90_62, e_90_65, e_90_67, e_90_68, e_90_69, e_90_72, e_90_73, e_90_76, e_90_77, e_90_79, e_90_80, e_90_83, e_90_85, e_90_87, e_90_90, e_90_91, e_90_94, e_90_95, e_90_97, e_90_100, e_90_101, e_90_102, e_90_105, e_90_107, e_90_109, e_90_112, e_90_113, e_90_116, e_90_117, e_90_119, e_90_121, e_90_124, e_90_125, e_90_128, e_90_131, Option.bind_some, Option.bind_none, m_kt, m_kn, Option.toList_some, Option.toList_none, List.nil_append, List.cons_append, List.append_nil, ltn, ite_not, ↓reduceIte, true_or, or_true, nP1, oI_s, oI_n, bI_f, bI_t, i1_0, i0_0, Bool.false_eq_true, not_true_eq_false, not_false_eq_true, h1, gC2 (H1 s), gC9 (H1 s), (H1 s).t3 hi3, brk_le R hi3, hb, gW4 (g6 s), (H1 s).isc, bears_ev O d (H1 s) R hi3, s8 s i _ hi3, gW5 (g6 _), (H1 _).isc, bearsT_ev O (d + 1) (H1 _) R hi3, s9 _ i _ hi3, v1, v2]
        exact ⟨_, rfl⟩
      · rw [hb] at v1 v2
        simp only [↓reduceIte] at v1 v2
        simp only [e_90_0, e_90_1, e_90_2, e_90_5, e_90_6, e_90_7, e_90_10, e_90_11, e_90_13, e_90_16, e_90_17, e_90_20, e_90_21, e_90_24, e_90_25, e_90_27, e_90_29, e_90_30, e_90_33, e_90_36, e_90_37, e_90_38, e_90_40, e_90_43, e_90_46, e_90_49, e_90_50, e_90_54, e_90_55, e_90_58, e_90_61, e_90_62, e_90_65, e_90_67, e_90_68, e_90_69, e_90_72, e_90_73, e_90_76, e_90_77, e_90_79, e_90_80, e_90_83, e_90_85, e_90_87, e_90_90, e_90_91, e_90_94, e_90_95, e_90_97, e_90_100, e_90_101, e_90_102, e_90_105, e_90_107, e_90_109, e_90_112, e_90_113, e_90_116, e_90_117, e_90_119, e_90_121, e_90_124, e_90_125, e_90_128, e_90_131, Option.bind_some, Option.bind_none, m_kt, m_kn, Option.toList_some, Option.toList_none, List.nil_append, List.cons_append, List.append_nil, ltn, ite_not, ↓reduceIte, true_or, or_true, nP1, oI_s, oI_n, bI_f, bI_t, i1_0, i0_0, Bool.false_eq_true, not_true_eq_false, not_false_eq_true, h1, gC2 (H1 s), gC9 (H1 s), (H1 s).t3 hi3, brk_le R hi3, hb, gW4 (g6 s), s8 s i _ hi3, gW5 (g6 _), s9 _ i _ hi3, v1, v2]
        exact ⟨_, rfl⟩) v
  have h00 : hB h (B, BT) = h := by unfold hB; rw [hset e8, hset e9]
  obtain ⟨I, v', e⟩ := e
  rw [h00] at e
  simp only [nI_0] at e
  refine ⟨_, I, e.trans ?_⟩
  rw [e_90_52]
  simp only [e_90_0, e_90_1, e_90_2, e_90_5, e_90_6, e_90_7, e_90_10, e_90_11, e_90_13, e_90_16, e_90_17, e_90_20, e_90_21, e_90_24, e_90_25, e_90_27, e_90_29, e_90_30, e_90_33, e_90_36, e_90_37, e_90_38, e_90_40, e_90_43, e_90_46, e_90_49, e_90_50, e_90_54, e_90_55, e_90_58, e_90_61, e_90_62, e_90_65, e_90_67, e_90_68, e_90_69, e_90_72, e_90_73, e_90_76, e_90_77, e_90_79, e_90_80, e_90_83, e_90_85, e_90_87, e_90_90, e_90_91, e_90_94, e_90_95, e_90_97, e_90_100, e_90_101, e_90_102, e_90_105, e_90_107, e_90_109, e_90_112, e_90_113, e_90_116, e_90_117, e_90_119, e_90_121, e_90_124, e_90_125, e_90_128, e_90_131, Option.bind_some, Option.bind_none, m_kt, m_kn, Option.toList_some, Option.toList_none, List.nil_append, List.cons_append, List.append_nil, ltn, ite_not, ↓reduceIte, true_or, or_true, nP1, oI_s, oI_n, bI_f, bI_t, i1_0, i0_0, Bool.false_eq_true, not_true_eq_false, not_false_eq_true, gC2 (H1 _), Int32.le_refl]
theorem look_ev (O : mO) (d : Nat) (H : CA h a W) (ha : a < 28) (R : rng W) {f t s : Int32} {L B BT OP OT : Nat → Int32} (K : WK h f t s L B BT OP OT) (x y z : Int32) : ∃ h' L' B' BT', ev O (d + 2) 90 0 [.ref 56, .ref a, .int x, .int y, .int z, mJ, mJ] [] h = some (.inl none, h') ∧ out WS h h' ∧ WK h' x y z L' B' BT' OP OT ∧ (∀ hh p, hh < 24 → p < 30 → L' (30 * hh + p) = loadS W (nI p) (nI hh)) ∧ (∀ p, p < pN W → B' p = vB W p ∧ BT' p = vT W p) := by
  obtain ⟨e6, e7, e8, e9, e10, e11, LD, e12⟩ := K
  have h12 := kN_le R
  have hN := pN_le R
  have F0 : out WS h (hW h x y z) := out.st h _ (by unfold WS; omega)
  have F1 : ∀ L, out WS (hW h x y z) (hL (hW h x y z) L) := fun L => out.st _ _ (by unfold WS; omega)
  have H0 := CA_ws H ha F0
  have H1 : ∀ L, CA (hL (hW h x y z) L) a W := fun L => CA_ws H0 ha (F1 L)
  have g6 := hW_at e6 x y z
  have g7 : (hW h x y z).1[57]? = some (aI 720 L) := (hne (by decide)).trans e7
  have k6 : ∀ L, (hL (hW h x y z) L).1[56]? = some (oWk x y z) := fun L => (hne (by decide)).trans g6
  have fe := fill_i O (d + 1) 57 720 0 L (hW h x y z) (by decide) g7
  have e := lp_runI (fun k (f : Nat → Int32) => ∀ hh p, hh < 24 → p < 30 → f (30 * hh + p) = ldK W (nI p) (nI hh) k) (F := fun k f => ev O (d + 2) 90 27 [.ref 56, .ref a, .int x, .int y, .int z, .int (nI k), mJ] [] (hL (hW h x y z) f)) (f := adS W) (n := kN W) (s := fl 720 0 L) (fun hh p h1 h2 => by
      unfold fl ldK
      rw [lp_0, if_pos (by omega)]) (fun k f hk I => by
    have h1 : ¬ nI (kN W) ≤ nI k := nI_ge hk (by omega)
    obtain ⟨qe, ql⟩ := qN_e R hk
    refine ⟨fun hh p h2 h3 => ?_, ?_⟩
    · unfold adS
      rw [adB_at f (by omega) h3, I hh p h2 h3]
      unfold ldK
      rw [lp_s, qe]
      have : (hh < 24 ∧ p = qN W k ∧ thenB (nI hh) (W (187 + 5 * k + 2)) (W (187 + 5 * k + 3)) = true) = (nI (qN W k) = nI p ∧ thenB (nI hh) (W (187 + 5 * k + 2)) (W (187 + 5 * k + 3)) = true) := by
        apply propext
        rw [nI_eq (by omega) (by omega)]
        constructor
        · rintro ⟨-, b, c⟩; exact ⟨b.symm, c⟩
        · rintro ⟨b, c⟩; exact ⟨h2, b.symm, c⟩
      simp only [this]
    · rw [e_90_27]
      simp only [e_90_0, e_90_1, e_90_2, e_90_5, e_90_6, e_90_7, e_90_10, e_90_11, e_90_13, e_90_16, e_90_17, e_90_20, e_90_21, e_90_24, e_90_25, e_90_29, e_90_30, e_90_33, e_90_36, e_90_37, e_90_38, e_90_40, e_90_43, e_90_46, e_90_49, e_90_50, e_90_52, e_90_54, e_90_55, e_90_58, e_90_61, e_90_62, e_90_65, e_90_67, e_90_68, e_90_69, e_90_72, e_90_73, e_90_76, e_90_77, e_90_79, e_90_80, e_90_83, e_90_85, e_90_87, e_90_90, e_90_91, e_90_94, e_90_95, e_90_97, e_90_100, e_90_101, e_90_102, e_90_105, e_90_107, e_90_109, e_90_112, e_90_113, e_90_116, e_90_117, e_90_119, e_90_121, e_90_124, e_90_125, e_90_128, e_90_131, Option.bind_some, Option.bind_none, m_kt, m_kn, Option.toList_some, Option.toList_none, List.nil_append, List.cons_append, List.append_nil, ltn, ite_not, ↓reduceIte, true_or, or_true, nP1, oI_s, oI_n, bI_f, bI_t, i1_0, i0_0, Bool.false_eq_true, not_true_eq_false, not_false_eq_true, gC12 (H1 f), rW2 R, h1, W_isc (k6 f), addLoad_ev O d H0 ha R g6 g7 hk]) 
  obtain ⟨I, e⟩ := e
  obtain ⟨s2, J, e2⟩ := look2 O d (H1 (lp (adS W) (kN W) (fl 720 0 L))) ha R (k6 _) (B := B) (BT := BT) ((hne (by decide)).trans ((hne (by decide)).trans e8)) ((hne (by decide)).trans ((hne (by decide)).trans e9)) mJ
  refine ⟨hB (hL (hW h x y z) (lp (adS W) (kN W) (fl 720 0 L))) s2, lp (adS W) (kN W) (fl 720 0 L), s2.1, s2.2, ?_, ?_, ?_, I, J⟩
  · simp only [nI_0] at e
    simp only [e_90_0, e_90_1, e_90_2, e_90_5, e_90_6, e_90_7, e_90_10, e_90_11, e_90_13, e_90_16, e_90_17, e_90_20, e_90_21, e_90_24, e_90_25, e_90_29, e_90_30, e_90_33, e_90_36, e_90_37, e_90_38, e_90_40, e_90_43, e_90_46, e_90_49, e_90_50, e_90_54, e_90_55, e_90_58, e_90_61, e_90_62, e_90_65, e_90_67, e_90_68, e_90_69, e_90_72, e_90_73, e_90_76, e_90_77, e_90_79, e_90_80, e_90_83, e_90_85, e_90_87, e_90_90, e_90_91, e_90_94, e_90_95, e_90_97, e_90_100, e_90_101, e_90_102, e_90_105, e_90_107, e_90_109, e_90_112, e_90_113, e_90_116, e_90_117, e_90_119, e_90_121, e_90_124, e_90_125, e_90_128, e_90_131, Option.bind_some, Option.bind_none, m_kt, m_kn, Option.toList_some, Option.toList_none, List.nil_append, List.cons_append, List.append_nil, ltn, ite_not, ↓reduceIte, true_or, or_true, nP1, oI_s, oI_n, bI_f, bI_t, i1_0, i0_0, Bool.false_eq_true, not_true_eq_false, not_false_eq_true, hW_p0 e6, hW_p1 e6, hW_p2 e6, gW3 g6, fe]
    refine Eq.trans e ?_
    rw [e_90_27]
    simp only [e_90_0, e_90_1, e_90_2, e_90_5, e_90_6, e_90_7, e_90_10, e_90_11, e_90_13, e_90_16, e_90_17, e_90_20, e_90_21, e_90_24, e_90_25, e_90_29, e_90_30, e_90_33, e_90_36, e_90_37, e_90_38, e_90_40, e_90_43, e_90_46, e_90_49, e_90_50, e_90_54, e_90_55, e_90_58, e_90_61, e_90_62, e_90_65, e_90_67, e_90_68, e_90_69, e_90_72, e_90_73, e_90_76, e_90_77, e_90_79, e_90_80, e_90_83, e_90_85, e_90_87, e_90_90, e_90_91, e_90_94, e_90_95, e_90_97, e_90_100, e_90_101, e_90_102, e_90_105, e_90_107, e_90_109, e_90_112, e_90_113, e_90_116, e_90_117, e_90_119, e_90_121, e_90_124, e_90_125, e_90_128, e_90_131, Option.bind_some, Option.bind_none, m_kt, m_kn, Option.toList_some, Option.toList_none, List.nil_append, List.cons_append, List.append_nil, ltn, ite_not, ↓reduceIte, true_or, or_true, nP1, oI_s, oI_n, bI_f, bI_t, i1_0, i0_0, Bool.false_eq_true, not_true_eq_false, not_false_eq_true, gC12 (H1 _), rW2 R, Int32.le_refl]
    exact e2
  · exact (F0.tr1 (F1 _)).tr1 (out2 _ _ _ (by unfold WS; omega) (by unfold WS; omega))
  · have n8 : (hL (hW h x y z) (lp (adS W) (kN W) (fl 720 0 L))).1[58]? = some (aI 30 B) := (hne (by decide)).trans ((hne (by decide)).trans e8)
    have n9 : (hL (hW h x y z) (lp (adS W) (kN W) (fl 720 0 L))).1[59]? = some (aI 30 BT) := (hne (by decide)).trans ((hne (by decide)).trans e9)
    refine ⟨((hne (by decide)).trans (hne (by decide))).trans (k6 _), ((hne (by decide)).trans (hne (by decide))).trans (hget g7), (hne (by decide)).trans (hget n8), hget (c := aI 30 BT) ((hne (by decide)).trans n9), ?_, ?_, LD, ?_⟩
    · exact ((hne (by decide)).trans (hne (by decide))).trans ((hne (by decide)).trans ((hne (by decide)).trans e10))
    · exact ((hne (by decide)).trans (hne (by decide))).trans ((hne (by decide)).trans ((hne (by decide)).trans e11))
    · exact ((hne (by decide)).trans (hne (by decide))).trans ((hne (by decide)).trans ((hne (by decide)).trans e12))
/-- what the class has looked up -/
def LK (W : WD) (L B BT : Nat → Int32) : Prop := (∀ hh p, hh < 24 → p < 30 → L (30 * hh + p) = loadS W (nI p) (nI hh)) ∧ (∀ p, p < pN W → B p = vB W p ∧ BT p = vT W p)
theorem le_vB {W : WD} (R : rng W) {p : Nat} (hr wt v : Int32) (hw : bd 0 999 wt) : decide (loadS W (nI p) hr + wt ≤ (if brk W p = true then -1 else v)) = (!brk W p && decide (loadS W (nI p) hr + wt ≤ v)) := by
  cases brk W p
  · simp
  · simp only [↓reduceIte, Bool.not_true, Bool.false_and, decide_eq_false_iff_not]
    have := loadS_b R (nI p) hr
    unfold bd at *
    rw [i_le, fb_addI (by omega) (by omega)]
    have e : (-1 : Int32).toInt = -1 := by decide
    omega
theorem opS_hd {W : WD} (R : rng W) {L B BT : Nat → Int32} (K : LK W L B BT) {wt : Int32} (hw : bd 0 999 wt) {hh : Nat} (h : hh < 24) : opS (pN W) L B wt hh = hdS W (nI hh) wt := by
  have hN := pN_le R
  refine bs_congr (fun p hp => ?_)
  rw [K.1 hh p h (by omega), (K.2 p hp).1]
  exact le_vB R _ _ _ hw
theorem hoS_congr {w g : Nat} {hd hd' : Nat → Int32} (h : ∀ t, hd t = hd' t) (fr to : Nat) : hoS w g hd fr to = hoS w g hd' fr to := by rw [show hd = hd' from funext h]
theorem hoursWith_ev (O : mO) (d : Nat) (H : CA h a W) (ha : a < 28) (R : rng W) {fr to st : Nat} {L B BT OP OT : Nat → Int32} (K : WK h (nI fr) (nI to) (nI st) L B BT OP OT) (hfr : fr < pN W) (hto : to < pN W) (hst : st < 24) (LKH : LK W L B BT) {wt : Int32} (hw : bd 0 999 wt) : ∃ h' OP', ev O (d + 2) 94 0 [.ref 56, .ref a, .int wt] [] h = some (.inl (some (.int (oI (hoS (wN W) (gN W) (hdT W st wt) fr to)))), h') ∧ out WS h h' ∧ WK h' (nI fr) (nI to) (nI st) L B BT OP' OT ∧ (∀ hh, hh < 24 → OP' hh = hdS W (nI hh) wt) := by
  obtain ⟨e6, e7, e8, e9, e10, e11, LD, e12⟩ := K
  have fo := fillOpen_ev O (d + 1) H ha R e6 e7 e8 e10 (by decide) (by decide) wt
  have F : out WS h (hO h 60 (lp (fun i P => upd P i (opS (pN W) L B wt i)) 24 OP)) := out.st h _ (by unfold WS; omega)
  have K' : WK (hO h 60 (lp (fun i P => upd P i (opS (pN W) L B wt i)) 24 OP)) (nI fr) (nI to) (nI st) L B BT (lp (fun i P => upd P i (opS (pN W) L B wt i)) 24 OP) OT := ⟨(hne (by decide)).trans e6, (hne (by decide)).trans e7, (hne (by decide)).trans e8, (hne (by decide)).trans e9, hget e10, (hne (by decide)).trans e11, LD, (hne (by decide)).trans e12⟩
  have hop : ∀ hh, hh < 24 → lp (fun i P => upd P i (opS (pN W) L B wt i)) 24 OP hh = hdS W (nI hh) wt := fun hh h => by
    rw [lp_upd, if_pos h, opS_hd R LKH hw h]
  have hi := hoursIfThick_ev O d (CA_ws H ha F) R K' hfr hto hst 0
  refine ⟨_, _, ?_, F, K', hop⟩
  have fo : ev O (d + 1) 92 0 [.ref 56, .ref a, .ref 60, .ref 58, .int wt, mJ, mJ, mJ] [] h = some (.inl none, hO h 60 (lp (fun i P => upd P i (opS (pN W) L B wt i)) 24 OP)) := fo
  simp only [e_94_0, e_94_1, e_94_2, e_94_3, e_94_6, e_94_7, e_94_10, e_94_11, e_94_14, e_94_15, e_94_16, e_94_17, e_94_20, Option.bind_some, Option.bind_none, m_kt, m_kn, Option.toList_some, Option.toList_none, List.nil_append, List.cons_append, List.append_nil, ltn, ite_not, ↓reduceIte, true_or, or_true, nP1, oI_s, oI_n, bI_f, bI_t, i1_0, i0_0, Bool.false_eq_true, not_true_eq_false, not_false_eq_true, gW6 e6, gW4 e6, W_isc e6, fo, W_isc K'.1, hi]
  have : hoS (wN W) (gN W) (thk (lp (fun i P => upd P i (opS (pN W) L B wt i)) 24 OP) OT st 0) fr to = hoS (wN W) (gN W) (hdT W st wt) fr to := hoS_congr (fun t => by
    unfold thk hdT
    have : ∀ x : Int32, x &&& 0 = 0 := fun x => by apply b_ext; intro i hi; rw [b_and, b_0, Bool.and_false]
    rw [this, or_0, hop _ (by omega)]) _ _
  rw [this]
end Look
