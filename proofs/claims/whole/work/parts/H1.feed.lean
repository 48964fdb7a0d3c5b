/-! Twenty bytes come behind the tape -/
def byt (x s : Int32) : Int32 := ((x >>> (s &&& 31)).toInt8.toInt32).toInt8.toInt32
def put4 (B : Nat → Int32) (l : Nat) (x : Int32) : Nat → Int32 := upd (upd (upd (upd B l (byt x 24)) (l + 1) (byt x 16)) (l + 2) (byt x 8)) (l + 3) (byt x 0)
def fed (B : Nat → Int32) (l : Nat) (a b c d e : Int32) : Nat → Int32 := put4 (put4 (put4 (put4 (put4 B l a) (l + 4) b) (l + 8) c) (l + 12) d) (l + 16) e
def hF (h : mH) (l : Nat) (p t w : Int32) (B : Nat → Int32) : mH := ((h.1.set 49 (oT (nI l) p t w)).set 50 (aB 400 B), h.2)
section FeedG
variable {h : mH} {l : Nat} {p t w : Int32} {B B0 : Nat → Int32}
theorem F49 {c : mC} (e : h.1[49]? = some c) : (hF h l p t w B).1[49]? = some (oT (nI l) p t w) := (hne (by decide)).trans (hget e)
theorem F50 (e : h.1[50]? = some (aB 400 B0)) : (hF h l p t w B).1[50]? = some (aB 400 B) := hget (c := aB 400 B0) ((hne (by decide)).trans e)
theorem hF_id (e49 : h.1[49]? = some (oT (nI l) p t w)) (e50 : h.1[50]? = some (aB 400 B)) : hF h l p t w B = h := by unfold hF; rw [hset e49, hset e50]
theorem room_ev (O : mO) (d : Nat) (K : h.1[49]? = some (oT (nI l) p t w)) (hl : l ≤ 400) {k : Nat} (hk : k ≤ 20) : ev O (d) 76 0 [.ref 49, .int (nI k)] [] h = some (.inl (some (.int (bI (decide (l + k ≤ 400))))), h) := by
  by_cases c : l + k ≤ 400
  · have c1 : nI (l + k) ≤ 400 := nI_le (b := 400) c (by omega)
    rw [decide_eq_true c]
    simp only [e_76_0, e_76_1, e_76_4, e_76_5, e_76_6, e_76_9, e_76_12, e_76_13, e_76_16, e_76_17, Option.bind_some, Option.bind_none, m_kt, m_kn, Option.toList_some, Option.toList_none, List.nil_append, List.cons_append, List.append_nil, ltn, ite_not, ↓reduceIte, true_or, or_true, nP1, oI_s, oI_n, bI_f, bI_t, i1_0, i0_0, Bool.false_eq_true, not_true_eq_false, not_false_eq_true, gT1 K, nA, c1, o01]
  · have c1 : ¬ nI (l + k) ≤ 400 := nI_ge (a := 400) (by omega) (by omega)
    rw [decide_eq_false c]
    simp only [e_76_0, e_76_1, e_76_4, e_76_5, e_76_6, e_76_9, e_76_12, e_76_13, e_76_16, e_76_17, Option.bind_some, Option.bind_none, m_kt, m_kn, Option.toList_some, Option.toList_none, List.nil_append, List.cons_append, List.append_nil, ltn, ite_not, ↓reduceIte, true_or, or_true, nP1, oI_s, oI_n, bI_f, bI_t, i1_0, i0_0, Bool.false_eq_true, not_true_eq_false, not_false_eq_true, gT1 K, nA, c1, z01]
theorem put_ev (O : mO) (d : Nat) {c : mC} (e49 : h.1[49]? = some c) (e50 : h.1[50]? = some (aB 400 B0)) (hl : l + 4 ≤ 400) (x : Int32) : ev O (d + 1) 77 0 [.ref 49, .int x, mJ] [] (hF h l p t w B) = some (.inl none, hF h (l + 4) p t w (put4 B l x)) := by
  have K : ∀ {l : Nat} {B : Nat → Int32}, (hF h l p t w B).1[49]? = some (oT (nI l) p t w) := F49 e49
  have s1 : ∀ (l' : Nat) (B' : Nat → Int32) (y : Int32), l' < 400 → m_sb (hF h l' p t w B') 50 (nI l') y = some (hF h l' p t w (upd B' l' y.toInt8.toInt32)) := fun l' B' y hl' => by
    rw [sb_n (F50 e50) hl' (by decide)]
    unfold hF
    rw [List.set_set]
  have p1 : ∀ (l' : Nat) (B' : Nat → Int32) (k : Nat), m_pf (hF h l' p t w B') 49 5 1 (.int (nI k)) = some (hF h k p t w B') := fun l' B' k => by
    rw [pT1 K]
    unfold hF
    simp only
    rw [List.set_comm _ _ (by decide), List.set_set]
  have rm := room_ev O d (K (l := l) (B := B)) (by omega) (k := 4) (by omega)
  rw [decide_eq_true hl, show nI 4 = (4 : Int32) from rfl] at rm
  have i1 : ((24 : Int32) + -8) = 16 := by decide
  have i2 : ((16 : Int32) + -8) = 8 := by decide
  have i3 : ((8 : Int32) + -8) = 0 := by decide
  have i4 : ((0 : Int32) + -8) = -8 := by decide
  have st : ∀ (s : Int32) (l' : Nat) (B' : Nat → Int32), l' < 400 → (0 ≤ s) = True → ev O (d + 1) 77 12 [.ref 49, .int x, .int s] [] (hF h l' p t w B') = ev O (d + 1) 77 12 [.ref 49, .int x, .int (s + -8)] [] (hF h (l' + 1) p t w (upd B' l' (byt x s))) := fun s l' B' hl' hs => by
    rw [e_77_12]
    simp only [e_77_0, e_77_1, e_77_2, e_77_5, e_77_8, e_77_9, e_77_11, e_77_13, e_77_16, e_77_17, e_77_20, e_77_21, e_77_24, e_77_25, e_77_26, e_77_27, e_77_28, e_77_29, e_77_30, e_77_31, e_77_34, e_77_35, e_77_36, e_77_39, e_77_42, e_77_45, Option.bind_some, Option.bind_none, m_kt, m_kn, Option.toList_some, Option.toList_none, List.nil_append, List.cons_append, List.append_nil, ltn, ite_not, ↓reduceIte, true_or, or_true, nP1, oI_s, oI_n, bI_f, bI_t, i1_0, i0_0, Bool.false_eq_true, not_true_eq_false, not_false_eq_true, hs, gT0 K, gT1 K, s1 l' _ _ hl', cat_ref, p1]
    rfl
  have e0 : ev O (d + 1) 77 0 [.ref 49, .int x, mJ] [] (hF h l p t w B) = ev O (d + 1) 77 12 [.ref 49, .int x, .int 24] [] (hF h l p t w B) := by
    simp only [e_77_0, e_77_1, e_77_2, e_77_5, e_77_8, e_77_9, e_77_11, e_77_13, e_77_16, e_77_17, e_77_20, e_77_21, e_77_24, e_77_25, e_77_26, e_77_27, e_77_28, e_77_29, e_77_30, e_77_31, e_77_34, e_77_35, e_77_36, e_77_39, e_77_42, e_77_45, Option.bind_some, Option.bind_none, m_kt, m_kn, Option.toList_some, Option.toList_none, List.nil_append, List.cons_append, List.append_nil, ltn, ite_not, ↓reduceIte, true_or, or_true, nP1, oI_s, oI_n, bI_f, bI_t, i1_0, i0_0, Bool.false_eq_true, not_true_eq_false, not_false_eq_true, iscT K, rm]
  rw [e0, st 24 l _ (by omega) (by decide), i1, st 16 (l + 1) _ (by omega) (by decide), i2, st 8 (l + 1 + 1) _ (by omega) (by decide), i3, st 0 (l + 1 + 1 + 1) _ (by omega) (by decide), i4, e_77_12]
  simp only [e_77_0, e_77_1, e_77_2, e_77_5, e_77_8, e_77_9, e_77_11, e_77_13, e_77_16, e_77_17, e_77_20, e_77_21, e_77_24, e_77_25, e_77_26, e_77_27, e_77_28, e_77_29, e_77_30, e_77_31, e_77_34, e_77_35, e_77_36, e_77_39, e_77_42, e_77_45, Option.bind_some, Option.bind_none, m_kt, m_kn, Option.toList_some, Option.toList_none, List.nil_append, List.cons_append, List.append_nil, ltn, ite_not, ↓reduceIte, true_or, or_true, nP1, oI_s, oI_n, bI_f, bI_t, i1_0, i0_0, Bool.false_eq_true, not_true_eq_false, not_false_eq_true, (show ((0 : Int32) ≤ -8) = False by decide)]
  rfl
theorem Gfeed_ev (O : mO) (d : Nat) {g : gT} (G : h.1[0]? = some (oG g)) (e49 : h.1[49]? = some (oT (nI l) p t w)) (e50 : h.1[50]? = some (aB 400 B)) (hl : l ≤ 400) (x1 x2 x3 x4 x5 : Int32) : ev O (d + 2) 102 0 [.ref 0, .int x1, .int x2, .int x3, .int x4, .int x5] [] h = if l + 20 ≤ 400 then some (.inl (some (.int (nI (l + 20)))), hF h (l + 20) p t w (fed B l x1 x2 x3 x4 x5)) else some (.inl (some (.int (-1))), h) := by
  have rm := room_ev O (d + 1) e49 hl (k := 20) (by omega)
  rw [show nI 20 = (20 : Int32) from rfl] at rm
  by_cases c : l + 20 ≤ 400
  · rw [if_pos c]
    rw [decide_eq_true c] at rm
    have G1 : ∀ {l : Nat} {B : Nat → Int32}, (hF h l p t w B).1[0]? = some (oG g) := ((hne (by decide)).trans (hne (by decide))).trans G
    have K : ∀ {l : Nat} {B : Nat → Int32}, (hF h l p t w B).1[49]? = some (oT (nI l) p t w) := F49 e49
    have p0 := put_ev (p := p) (t := t) (w := w) (B := B) O d e49 e50 (show l + 4 ≤ 400 by omega) x1
    rw [hF_id e49 e50] at p0
    simp only [e_102_0, e_102_1, e_102_4, e_102_6, e_102_9, e_102_12, e_102_13, e_102_14, e_102_15, e_102_18, e_102_19, e_102_22, e_102_23, e_102_26, e_102_27, e_102_30, e_102_31, e_102_34, e_102_35, e_102_38, e_102_39, e_102_42, e_102_44, e_102_47, e_102_48, e_102_51, e_102_53, e_102_56, e_102_57, e_102_60, e_102_63, Option.bind_some, Option.bind_none, m_kt, m_kn, Option.toList_some, Option.toList_none, List.nil_append, List.cons_append, List.append_nil, ltn, ite_not, ↓reduceIte, true_or, or_true, nP1, oI_s, oI_n, bI_f, bI_t, i1_0, i0_0, Bool.false_eq_true, not_true_eq_false, not_false_eq_true, gG6 G, iscT e49, rm, p0, gG6 G1, iscT K, put_ev O d e49 e50 (show l + 4 + 4 ≤ 400 by omega), put_ev O d e49 e50 (show l + 4 + 4 + 4 ≤ 400 by omega), put_ev O d e49 e50 (show l + 4 + 4 + 4 + 4 ≤ 400 by omega), put_ev O d e49 e50 (show l + 12 + 4 + 4 ≤ 400 by omega), put_ev O d e49 e50 (show l + 16 + 4 ≤ 400 by omega), gT1 K]
    rfl
  · rw [if_neg c]
    rw [decide_eq_false c] at rm
    simp only [e_102_0, e_102_1, e_102_4, e_102_6, e_102_9, e_102_12, e_102_13, e_102_14, e_102_15, e_102_18, e_102_19, e_102_22, e_102_23, e_102_26, e_102_27, e_102_30, e_102_31, e_102_34, e_102_35, e_102_38, e_102_39, e_102_42, e_102_44, e_102_47, e_102_48, e_102_51, e_102_53, e_102_56, e_102_57, e_102_60, e_102_63, Option.bind_some, Option.bind_none, m_kt, m_kn, Option.toList_some, Option.toList_none, List.nil_append, List.cons_append, List.append_nil, ltn, ite_not, ↓reduceIte, true_or, or_true, nP1, oI_s, oI_n, bI_f, bI_t, i1_0, i0_0, Bool.false_eq_true, not_true_eq_false, not_false_eq_true, gG6 G, iscT e49, rm]
end FeedG
section FeedM
variable {h : mH} {m : Nat → Int32} {W : WD} {l : Nat} {B : Nat → Int32}
def fedF (l : Nat) (v : Nat → Int32) : Nat → (Nat → Int32) → (Nat → Int32) := fun k T => upd T (l + k) (byt (v (k / 4)) (nI (24 - 8 * (k % 4))))
theorem fed_eq (l : Nat) (v : Nat → Int32) (B : Nat → Int32) : lp (fedF l v) 20 B = fed B l (v 0) (v 1) (v 2) (v 3) (v 4) := rfl
theorem Mfeed_ev (O : mO) (d : Nat) (H : MS h m W) (h8 : m 8 = nI l) (hl : l ≤ 400) (e71 : h.1[71]? = some (aB 400 B)) (e72 : ∃ f, h.1[72]? = some (aI 5 f)) (x1 x2 x3 x4 x5 : Int32) : (l + 20 ≤ 400 → ∃ h' m', ev O (d) 165 0 [.ref 66, .int x1, .int x2, .int x3, .int x4, .int x5, mJ] [] h = some (.inl (some (.int (nI (l + 20)))), h') ∧ MS h' m' W ∧ h'.1[71]? = some (aB 400 (fed B l x1 x2 x3 x4 x5)) ∧ (∃ f, h'.1[72]? = some (aI 5 f)) ∧ out (fun b => b = 66 ∨ b = 71 ∨ b = 72) h h' ∧ m' = upd (upd m 0 0) 8 (nI (l + 20))) ∧ (¬ l + 20 ≤ 400 → ev O (d) 165 0 [.ref 66, .int x1, .int x2, .int x3, .int x4, .int x5, mJ] [] h = some (.inl (some (.int (-1))), tH h m 0)) := by
  have H0 := H.t 0
  have m8 : upd m 0 0 8 = nI l := h8
  have ad : nI l + 20 = nI (l + 20) := nI_add l 20
  refine ⟨fun c => ?_, fun c => ?_⟩
  · obtain ⟨f0, e72⟩ := e72
    have c1 : nI (l + 20) ≤ 400 := nI_le (b := 400) c (by omega)
    have t72 : (tH h m 0).1[72]? = some (aI 5 f0) := (hne (by decide)).trans e72
    let hm : (Nat → Int32) → (Nat → Int32) → mH := fun f T => (((tH h m 0).1.set 72 (aI 5 f)).set 71 (aB 400 T), h.2)
    have t71 : (tH h m 0).1[71]? = some (aB 400 B) := (hne (by decide)).trans e71
    have i0 : hm f0 B = tH h m 0 := by
      show (((tH h m 0).1.set 72 (aI 5 f0)).set 71 (aB 400 B), h.2) = tH h m 0
      rw [hset t72, hset t71]; rfl
    have k66 : ∀ f T, (hm f T).1[66]? = some (oM (upd m 0 0)) := fun f T => ((hne (by decide)).trans (hne (by decide))).trans H0.1
    have k72 : ∀ f T, (hm f T).1[72]? = some (aI 5 f) := fun f T => (hne (by decide)).trans (hget t72)
    have k71 : ∀ f T, (hm f T).1[71]? = some (aB 400 T) := fun f T => hget (c := aB 400 B) ((hne (by decide)).trans t71)
    have s72 : ∀ f T j x, j < 5 → m_si (hm f T) 72 (nI j) x = some (hm (upd f j x) T) := fun f T j x hj => by
      rw [si_n (k72 f T) hj (by decide)]
      simp only [hm]
      rw [List.set_comm _ _ (show 71 ≠ 72 by decide), List.set_set]
    have s71 : ∀ f T j x, j < 400 → m_sb (hm f T) 71 (nI j) x = some (hm f (upd T j x.toInt8.toInt32)) := fun f T j x hj => by
      rw [sb_n (k71 f T) hj (by decide)]
      simp only [hm, List.set_set]
    let v : Nat → Int32 := upd (upd (upd (upd (upd f0 0 x1) 1 x2) 2 x3) 3 x4) 4 x5
    have e0 : ev O (d) 165 0 [.ref 66, .int x1, .int x2, .int x3, .int x4, .int x5, mJ] [] h = ev O (d) 165 60 [.ref 66, .int x1, .int x2, .int x3, .int x4, .int x5, .int (nI 0)] [] (hm v B) := by
      have a0 := fun f T x => s72 f T 0 x (by omega)
      have a1 := fun f T x => s72 f T 1 x (by omega)
      have a2 := fun f T x => s72 f T 2 x (by omega)
      have a3 := fun f T x => s72 f T 3 x (by omega)
      have a4 := fun f T x => s72 f T 4 x (by omega)
      rw [show nI 0 = (0 : Int32) from rfl] at a0
      rw [show nI 1 = (1 : Int32) from rfl] at a1
      rw [show nI 2 = (2 : Int32) from rfl] at a2
      rw [show nI 3 = (3 : Int32) from rfl] at a3
      rw [show nI 4 = (4 : Int32) from rfl] at a4
      simp only [e_165_0, e_165_1, e_165_2, e_165_5, e_165_6, e_165_9, e_165_11, e_165_12, e_165_15, e_165_18, e_165_19, e_165_20, e_165_21, e_165_24, e_165_25, e_165_26, e_165_27, e_165_28, e_165_31, e_165_32, e_165_33, e_165_34, e_165_35, e_165_38, e_165_39, e_165_40, e_165_41, e_165_42, e_165_45, e_165_46, e_165_48, e_165_49, e_165_50, e_165_53, e_165_54, e_165_56, e_165_57, e_165_58, e_165_62, e_165_64, e_165_67, e_165_68, e_165_71, e_165_72, e_165_75, e_165_77, e_165_78, e_165_79, e_165_82, e_165_84, e_165_85, e_165_86, e_165_87, e_165_89, e_165_91, e_165_93, e_165_94, e_165_95, e_165_96, e_165_97, e_165_98, e_165_99, e_165_100, e_165_103, e_165_106, e_165_107, e_165_108, e_165_111, e_165_113, e_165_114, e_165_117, e_165_118, e_165_121, Option.bind_some, Option.bind_none, m_kt, m_kn, Option.toList_some, Option.toList_none, List.nil_append, List.cons_append, List.append_nil, ltn, ite_not, ↓reduceIte, true_or, or_true, nP1, oI_s, oI_n, bI_f, bI_t, i1_0, i0_0, Bool.false_eq_true, not_true_eq_false, not_false_eq_true, pMt H, gM8 H0.1, m8, ad, c1]
      rw [← i0]
      simp only [e_165_0, e_165_1, e_165_2, e_165_5, e_165_6, e_165_9, e_165_11, e_165_12, e_165_15, e_165_18, e_165_19, e_165_20, e_165_21, e_165_24, e_165_25, e_165_26, e_165_27, e_165_28, e_165_31, e_165_32, e_165_33, e_165_34, e_165_35, e_165_38, e_165_39, e_165_40, e_165_41, e_165_42, e_165_45, e_165_46, e_165_48, e_165_49, e_165_50, e_165_53, e_165_54, e_165_56, e_165_57, e_165_58, e_165_62, e_165_64, e_165_67, e_165_68, e_165_71, e_165_72, e_165_75, e_165_77, e_165_78, e_165_79, e_165_82, e_165_84, e_165_85, e_165_86, e_165_87, e_165_89, e_165_91, e_165_93, e_165_94, e_165_95, e_165_96, e_165_97, e_165_98, e_165_99, e_165_100, e_165_103, e_165_106, e_165_107, e_165_108, e_165_111, e_165_113, e_165_114, e_165_117, e_165_118, e_165_121, Option.bind_some, Option.bind_none, m_kt, m_kn, Option.toList_some, Option.toList_none, List.nil_append, List.cons_append, List.append_nil, ltn, ite_not, ↓reduceIte, true_or, or_true, nP1, oI_s, oI_n, bI_f, bI_t, i1_0, i0_0, Bool.false_eq_true, not_true_eq_false, not_false_eq_true, gM14 (k66 _ _), a0, a1, a2, a3, a4]
      rfl
    have ls := lp_run (F := fun k T => ev O (d) 165 60 [.ref 66, .int x1, .int x2, .int x3, .int x4, .int x5, .int (nI k)] [] (hm v T)) (f := fedF l v) (n := 20) (fun k T hk => by
      have c2 : ¬ (20 : Int32) ≤ nI k := nI_ge (b := 20) hk (by omega)
      have dv : nI k / 4 = nI (k / 4) := pk_div (a := k) (d := 4) (by omega) (by omega) (by omega)
      have dr : nI k - nI (k / 4) * 4 = nI (k % 4) := by rw [← dv]; exact pk_rem (a := k) (d := 4) (by omega) (by omega) (by omega)
      have m8' : (8 : Int32) * nI (k % 4) = nI (8 * (k % 4)) := pk_mul 8 (k % 4)
      have sb : (24 : Int32) - nI (8 * (k % 4)) = nI (24 - 8 * (k % 4)) := pk_sub (a := 24) (by omega)
      rw [e_165_60]
      simp only [e_165_0, e_165_1, e_165_2, e_165_5, e_165_6, e_165_9, e_165_11, e_165_12, e_165_15, e_165_18, e_165_19, e_165_20, e_165_21, e_165_24, e_165_25, e_165_26, e_165_27, e_165_28, e_165_31, e_165_32, e_165_33, e_165_34, e_165_35, e_165_38, e_165_39, e_165_40, e_165_41, e_165_42, e_165_45, e_165_46, e_165_48, e_165_49, e_165_50, e_165_53, e_165_54, e_165_56, e_165_57, e_165_58, e_165_62, e_165_64, e_165_67, e_165_68, e_165_71, e_165_72, e_165_75, e_165_77, e_165_78, e_165_79, e_165_82, e_165_84, e_165_85, e_165_86, e_165_87, e_165_89, e_165_91, e_165_93, e_165_94, e_165_95, e_165_96, e_165_97, e_165_98, e_165_99, e_165_100, e_165_103, e_165_106, e_165_107, e_165_108, e_165_111, e_165_113, e_165_114, e_165_117, e_165_118, e_165_121, Option.bind_some, Option.bind_none, m_kt, m_kn, Option.toList_some, Option.toList_none, List.nil_append, List.cons_append, List.append_nil, ltn, ite_not, ↓reduceIte, true_or, or_true, nP1, oI_s, oI_n, bI_f, bI_t, i1_0, i0_0, Bool.false_eq_true, not_true_eq_false, not_false_eq_true, c2, gM7 (k66 _ _), gM8 (k66 _ _), m8, nA, gM14 (k66 _ _), (show ((4 : Int32) = 0) = False by decide), dv, dr, ai_n (k72 _ _) (show k / 4 < 5 by omega) (by decide), m8', sb, s71 _ _ _ _ (show l + k < 400 by omega)]
      rfl) B
    rw [fed_eq] at ls
    refine ⟨((hm v (fed B l x1 x2 x3 x4 x5)).1.set 66 (oM (upd (upd m 0 0) 8 (nI (l + 20)))), h.2), upd (upd m 0 0) 8 (nI (l + 20)), ?_, ⟨hget (k66 _ _), ?_⟩, ?_, ⟨v, ?_⟩, ?_, rfl⟩
    · have g8 : m_gf (((hm v (fed B l x1 x2 x3 x4 x5)).1.set 66 (oM (upd (upd m 0 0) 8 (nI (l + 20)))), h.2) : mH) 66 8 8 = some (.int (nI (l + 20))) := gM8 (m := upd (upd m 0 0) 8 (nI (l + 20))) (hget (k66 _ _))
      have p8 : m_pf (hm v (fed B l x1 x2 x3 x4 x5)) 66 8 8 (.int (nI (l + 20))) = some ((hm v (fed B l x1 x2 x3 x4 x5)).1.set 66 (oM (upd (upd m 0 0) 8 (nI (l + 20)))), h.2) := pM8 (k66 _ _) _
      rw [e0, ls, e_165_60]
      have fv : fed B l (v 0) (v 1) (v 2) (v 3) (v 4) = fed B l x1 x2 x3 x4 x5 := rfl
      rw [fv]
      simp only [e_165_0, e_165_1, e_165_2, e_165_5, e_165_6, e_165_9, e_165_11, e_165_12, e_165_15, e_165_18, e_165_19, e_165_20, e_165_21, e_165_24, e_165_25, e_165_26, e_165_27, e_165_28, e_165_31, e_165_32, e_165_33, e_165_34, e_165_35, e_165_38, e_165_39, e_165_40, e_165_41, e_165_42, e_165_45, e_165_46, e_165_48, e_165_49, e_165_50, e_165_53, e_165_54, e_165_56, e_165_57, e_165_58, e_165_62, e_165_64, e_165_67, e_165_68, e_165_71, e_165_72, e_165_75, e_165_77, e_165_78, e_165_79, e_165_82, e_165_84, e_165_85, e_165_86, e_165_87, e_165_89, e_165_91, e_165_93, e_165_94, e_165_95, e_165_96, e_165_97, e_165_98, e_165_99, e_165_100, e_165_103, e_165_106, e_165_107, e_165_108, e_165_111, e_165_113, e_165_114, e_165_117, e_165_118, e_165_121, Option.bind_some, Option.bind_none, m_kt, m_kn, Option.toList_some, Option.toList_none, List.nil_append, List.cons_append, List.append_nil, ltn, ite_not, ↓reduceIte, true_or, or_true, nP1, oI_s, oI_n, bI_f, bI_t, i1_0, i0_0, Bool.false_eq_true, not_true_eq_false, not_false_eq_true, (show ((20 : Int32) ≤ nI 20) = True by decide), cat_ref, gM8 (k66 _ _), m8, ad, p8, g8]
    · exact ((hne (by decide)).trans ((hne (by decide)).trans (hne (by decide)))).trans H0.2
    · exact (hne (by decide)).trans (k71 _ _)
    · exact (hne (by decide)).trans (k72 _ _)
    · exact (((out.st h _ (.inl rfl)).tr1 (out.st (tH h m 0) _ (.inr (.inr rfl)))).tr1 (out.st _ _ (.inr (.inl rfl)))).tr1 (out.st _ _ (.inl rfl))
  · have c1 : ¬ nI (l + 20) ≤ 400 := nI_ge (a := 400) (by omega) (by omega)
    simp only [e_165_0, e_165_1, e_165_2, e_165_5, e_165_6, e_165_9, e_165_11, e_165_12, e_165_15, e_165_18, e_165_19, e_165_20, e_165_21, e_165_24, e_165_25, e_165_26, e_165_27, e_165_28, e_165_31, e_165_32, e_165_33, e_165_34, e_165_35, e_165_38, e_165_39, e_165_40, e_165_41, e_165_42, e_165_45, e_165_46, e_165_48, e_165_49, e_165_50, e_165_53, e_165_54, e_165_56, e_165_57, e_165_58, e_165_62, e_165_64, e_165_67, e_165_68, e_165_71, e_165_72, e_165_75, e_165_77, e_165_78, e_165_79, e_165_82, e_165_84, e_165_85, e_165_86, e_165_87, e_165_89, e_165_91, e_165_93, e_165_94, e_165_95, e_165_96, e_165_97, e_165_98, e_165_99, e_165_100, e_165_103, e_165_106, e_165_107, e_165_108, e_165_111, e_165_113, e_165_114, e_165_117, e_165_118, e_165_121, Option.bind_some, Option.bind_none, m_kt, m_kn, Option.toList_some, Option.toList_none, List.nil_append, List.cons_append, List.append_nil, ltn, ite_not, ↓reduceIte, true_or, or_true, nP1, oI_s, oI_n, bI_f, bI_t, i1_0, i0_0, Bool.false_eq_true, not_true_eq_false, not_false_eq_true, pMt H, gM8 H0.1, m8, ad, c1]
end FeedM
