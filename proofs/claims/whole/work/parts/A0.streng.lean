/-! Strengthening -/
def htS (W : WD) (hr wt : Int32) : Int32 := bs (pN W) (fun p => !brk W p && decide (loadS W (nI p) hr + wt ≤ beaT W p 9))
def tkT (W : WD) (st : Nat) (wt set : Int32) : Nat → Int32 := fun t => hdS W (nI ((st + t) % 24)) wt ||| (htS W (nI ((st + t) % 24)) wt &&& set)
def sgB (W : WD) (fr to st : Nat) (wt set : Int32) : Bool := (hoS (wN W) (gN W) (tkT W st wt set) fr to).isSome
theorem sub_ht (W : WD) (R : rng W) (hr wt : Int32) : sub (wN W * gN W) (htS W hr wt) := sub_bs (n := pN W) (Nat.le_refl _) (by have := pN_le R; omega) _
theorem sub_tk (W : WD) (R : rng W) (st : Nat) (wt set : Int32) (t : Nat) : sub (wN W * gN W) (tkT W st wt set t) := sub_or (sub_hd W R _ _) (sub_and (sub_ht W R _ _))
theorem sg_mono {W : WD} (R : rng W) {fr to st : Nat} {wt s s' : Int32} (hto : to < pN W) (h : le32 s s') (q : sgB W fr to st wt s = true) : sgB W fr to st wt s' = true := by
  have hN := pN_le R
  have a := R.1.1.2
  have b := R.1.2.1.2
  refine ho_mono (by omega) (by omega) a.1 hN (fun t => sub_tk W R _ _ _ t) (fun t => sub_tk W R _ _ _ t) (by omega) (fun t i hi z => ?_) q
  unfold tkT at *
  rw [b_or, b_and, Bool.or_eq_true, Bool.and_eq_true] at *
  rcases z with z | z
  · exact .inl z
  · exact .inr ⟨z.1, h i hi z.2⟩
def prC (W : WD) (fr to st : Nat) (wt : Int32) (i b : Nat) : Bool := sgB W fr to st wt (shl1 (i + 1) ||| shl1 b)
def prI (W : WD) (fr to st : Nat) (wt : Int32) (i : Nat) : Option Nat := fd (prC W fr to st wt i) (i + 1)
def pairV (W : WD) (fr to st : Nat) (wt : Int32) : Int32 := (fd (fun i => (prI W fr to st wt i).isSome) (pN W - 1)).elim (-1) (fun i => shl1 (i + 1) ||| shl1 ((prI W fr to st wt i).getD 0))
def stgV (W : WD) (fr to st : Nat) (wt : Int32) : Int32 := if sgB W fr to st wt 0 = true then 0 else (fd (fun p => sgB W fr to st wt (shl1 p)) (pN W)).elim (pairV W fr to st wt) shl1
theorem sg_none {W : WD} (R : rng W) {fr to st : Nat} {wt : Int32} (hto : to < pN W) (h : sgB W fr to st wt (allI (wN W) (gN W)) = false) : ∀ s, sub (pN W) s → sgB W fr to st wt s = false := fun s hs => by
  have hN := pN_le R
  cases e : sgB W fr to st wt s with
  | false => rfl
  | true =>
    rw [sg_mono R hto (s' := allI (wN W) (gN W)) (fun i hi b => by
      rw [bt_all (show wN W * gN W < 31 by unfold pN at hN; omega) hi, decide_eq_true_eq]
      rcases Nat.lt_or_ge i (wN W * gN W) with z | z
      · exact z
      · rw [hs i hi z] at b; cases b) e] at h
    cases h
theorem stg_none {W : WD} (R : rng W) {fr to st : Nat} {wt : Int32} (hto : to < pN W) (h : sgB W fr to st wt (allI (wN W) (gN W)) = false) : stgV W fr to st wt = -1 := by
  have hN := pN_le R
  unfold stgV
  rw [sg_none R hto h 0 (sub_0 _), if_neg (by simp), fd_eqn (fun i hi => sg_none R hto h _ (sub_shl hi (by omega)))]
  show pairV W fr to st wt = -1
  unfold pairV
  rw [fd_eqn (fun i hi => ?_)]
  · rfl
  · unfold prI
    have : ∀ b, b < i + 1 → prC W fr to st wt i b = false := fun b hb => sg_none R hto h _ (sub_or (sub_shl (by omega) (by omega)) (sub_shl (by omega) (by omega)))
    rw [fd_eqn this]
    rfl
theorem oI_m1 {o : Option Nat} (h : ∀ n, o = some n → n < 2 ^ 31) : (oI o = -1) = (o.isSome = false) := by
  cases o with
  | none => simp [oI]
  | some n => rw [oI_s, nm1 (h n rfl)]; simp
theorem oI_ge {o : Option Nat} (h : ∀ n, o = some n → n < 2 ^ 31) : (0 ≤ oI o) = (o.isSome = true) := by
  cases o with
  | none => rw [oI_n, m1_0]; simp
  | some n => rw [oI_s, n0le (h n rfl)]; simp
theorem ho_lt {w g : Nat} {hd : Nat → Int32} {fr to : Nat} : ∀ n, hoS w g hd fr to = some n → n < 2 ^ 31 := fun n e => by
  have := (hoS_at e).1
  omega
section GStr
variable {h : mH} {a : Nat} {W : WD}
theorem ifThick_ev (O : mO) (d : Nat) (H : CA h a W) (R : rng W) {fr to st : Nat} {L B BT OP OT : Nat → Int32} (K : WK h (nI fr) (nI to) (nI st) L B BT OP OT) (hfr : fr < pN W) (hto : to < pN W) (hst : st < 24) {wt : Int32} (hop : ∀ hh, hh < 24 → OP hh = hdS W (nI hh) wt) (hot : ∀ hh, hh < 24 → OT hh = htS W (nI hh) wt) (set : Int32) : ev O (d + 1) 95 0 [.ref 56, .ref a, .int set, mJ, mJ, mJ] [] h = some (.inl (some (.int (oI (hoS (wN W) (gN W) (tkT W st wt set) fr to)))), h) := by
  rw [hoursIfThick_ev O d H R K hfr hto hst set]
  have : hoS (wN W) (gN W) (thk OP OT st set) fr to = hoS (wN W) (gN W) (tkT W st wt set) fr to := hoS_congr (fun t => by
    unfold thk tkT
    rw [hop _ (by omega), hot _ (by omega)]) _ _
  rw [this]
theorem strPair_ev (O : mO) (d : Nat) (H : CA h a W) (R : rng W) {fr to st : Nat} {L B BT OP OT : Nat → Int32} (K : WK h (nI fr) (nI to) (nI st) L B BT OP OT) (hfr : fr < pN W) (hto : to < pN W) (hst : st < 24) {wt : Int32} (hop : ∀ hh, hh < 24 → OP hh = hdS W (nI hh) wt) (hot : ∀ hh, hh < 24 → OT hh = htS W (nI hh) wt) : ev O (d + 2) 100 0 [.ref 56, .ref a, mJ, mJ, mJ] [] h = some (.inl (some (.int (pairV W fr to st wt))), h) := by
  have hN := pN_le R
  have hP := pN_pos R
  have hx := fun s => ifThick_ev O d H R K hfr hto hst hop hot s
  have e := fd_runV (ν := Value × Value) (c := fun i => (prI W fr to st wt i).isSome) (n := pN W - 1) (F := fun i v => ev O (d + 2) 100 2 [.ref 56, .ref a, .int (nI (i + 1)), v.1, v.2] [] h) (r := fun i => some (Sum.inl (some (Value.int (shl1 (i + 1) ||| shl1 ((prI W fr to st wt i).getD 0)))), h)) (fun i v hi => by
    have h1 : ¬ nI (pN W) ≤ nI (i + 1) := nI_ge (by omega) (by omega)
    have e2 := fd_runV (ν := Value) (c := prC W fr to st wt i) (n := i + 1) (F := fun b v => ev O (d + 2) 100 12 [.ref 56, .ref a, .int (nI (i + 1)), .int (nI b), v] [] h) (r := fun b => some (Sum.inl (some (Value.int (shl1 (i + 1) ||| shl1 b))), h)) (fun b v hb => by
      have h2 : ¬ nI (i + 1) ≤ nI b := nI_ge hb (by omega)
      rw [e_100_12]
      refine ⟨fun hc => ?_, fun hc => ?_⟩
      · have hc : (hoS (wN W) (gN W) (tkT W st wt (shl1 (i + 1) ||| shl1 b)) fr to).isSome = true := hc
        simp only [e_100_0, e_100_1, e_100_2, e_100_3, e_100_4, e_100_7, e_100_10, e_100_11, e_100_13, e_100_14, e_100_17, e_100_18, e_100_19, e_100_20, e_100_21, e_100_22, e_100_23, e_100_24, e_100_26, e_100_27, e_100_28, e_100_30, e_100_33, e_100_34, e_100_37, e_100_39, e_100_40, e_100_43, e_100_46, e_100_49, e_100_52, e_100_53, Option.bind_some, Option.bind_none, m_kt, m_kn, Option.toList_some, Option.toList_none, List.nil_append, List.cons_append, List.append_nil, ltn, ite_not, ↓reduceIte, true_or, or_true, nP1, oI_s, oI_n, bI_f, bI_t, i1_0, i0_0, Bool.false_eq_true, not_true_eq_false, not_false_eq_true, h2, shl_nI, W_isc K.1, hx, oI_m1 ho_lt, hc, Bool.true_eq_false]
      · have hc : (hoS (wN W) (gN W) (tkT W st wt (shl1 (i + 1) ||| shl1 b)) fr to).isSome = false := hc
        simp only [e_100_0, e_100_1, e_100_2, e_100_3, e_100_4, e_100_7, e_100_10, e_100_11, e_100_13, e_100_14, e_100_17, e_100_18, e_100_19, e_100_20, e_100_21, e_100_22, e_100_23, e_100_24, e_100_26, e_100_27, e_100_28, e_100_30, e_100_33, e_100_34, e_100_37, e_100_39, e_100_40, e_100_43, e_100_46, e_100_49, e_100_52, e_100_53, Option.bind_some, Option.bind_none, m_kt, m_kn, Option.toList_some, Option.toList_none, List.nil_append, List.cons_append, List.append_nil, ltn, ite_not, ↓reduceIte, true_or, or_true, nP1, oI_s, oI_n, bI_f, bI_t, i1_0, i0_0, Bool.false_eq_true, not_true_eq_false, not_false_eq_true, h2, shl_nI, W_isc K.1, hx, oI_m1 ho_lt, hc]
        exact ⟨_, rfl⟩) v.2
    rw [e_100_2]
    simp only [e_100_0, e_100_1, e_100_3, e_100_4, e_100_7, e_100_10, e_100_11, e_100_13, e_100_14, e_100_17, e_100_18, e_100_19, e_100_20, e_100_21, e_100_22, e_100_23, e_100_24, e_100_26, e_100_27, e_100_28, e_100_30, e_100_33, e_100_34, e_100_37, e_100_39, e_100_40, e_100_43, e_100_46, e_100_49, e_100_52, e_100_53, Option.bind_some, Option.bind_none, m_kt, m_kn, Option.toList_some, Option.toList_none, List.nil_append, List.cons_append, List.append_nil, ltn, ite_not, ↓reduceIte, true_or, or_true, nP1, oI_s, oI_n, bI_f, bI_t, i1_0, i0_0, Bool.false_eq_true, not_true_eq_false, not_false_eq_true, gC2 H, h1]
    simp only [nI_0] at e2
    rcases e2 with ⟨b, eb, e2⟩ | ⟨en, v2, e2⟩
    · have eb : prI W fr to st wt i = some b := eb
      refine ⟨fun _ => ?_, fun q => (by rw [eb] at q; cases q)⟩
      rw [eb, e2]
      rfl
    · have en : prI W fr to st wt i = none := en
      refine ⟨fun q => (by rw [en] at q; cases q), fun _ => ⟨(.int (nI (i + 1)), v2), e2.trans ?_⟩⟩
      rw [e_100_12]
      simp only [e_100_0, e_100_1, e_100_3, e_100_4, e_100_7, e_100_10, e_100_11, e_100_13, e_100_14, e_100_17, e_100_18, e_100_19, e_100_20, e_100_21, e_100_22, e_100_23, e_100_24, e_100_26, e_100_27, e_100_28, e_100_30, e_100_33, e_100_34, e_100_37, e_100_39, e_100_40, e_100_43, e_100_46, e_100_49, e_100_52, e_100_53, Option.bind_some, Option.bind_none, m_kt, m_kn, Option.toList_some, Option.toList_none, List.nil_append, List.cons_append, List.append_nil, ltn, ite_not, ↓reduceIte, true_or, or_true, nP1, oI_s, oI_n, bI_f, bI_t, i1_0, i0_0, Bool.false_eq_true, not_true_eq_false, not_false_eq_true, Int32.le_refl]) (mJ, mJ)
  simp only [e_100_0, e_100_1, e_100_3, e_100_4, e_100_7, e_100_10, e_100_11, e_100_13, e_100_14, e_100_17, e_100_18, e_100_19, e_100_20, e_100_21, e_100_22, e_100_23, e_100_24, e_100_26, e_100_27, e_100_28, e_100_30, e_100_33, e_100_34, e_100_37, e_100_39, e_100_40, e_100_43, e_100_46, e_100_49, e_100_52, e_100_53, Option.bind_some, Option.bind_none, m_kt, m_kn, Option.toList_some, Option.toList_none, List.nil_append, List.cons_append, List.append_nil, ltn, ite_not, ↓reduceIte, true_or, or_true, nP1, oI_s, oI_n, bI_f, bI_t, i1_0, i0_0, Bool.false_eq_true, not_true_eq_false, not_false_eq_true]
  simp only [Nat.zero_add, show nI 1 = 1 from rfl] at e
  unfold pairV
  rcases e with ⟨i, ei, e⟩ | ⟨en, v, e⟩
  · rw [ei]; exact e
  · rw [en]
    refine e.trans ?_
    rw [Nat.sub_add_cancel hP, e_100_2]
    simp only [e_100_0, e_100_1, e_100_3, e_100_4, e_100_7, e_100_10, e_100_11, e_100_13, e_100_14, e_100_17, e_100_18, e_100_19, e_100_20, e_100_21, e_100_22, e_100_23, e_100_24, e_100_26, e_100_27, e_100_28, e_100_30, e_100_33, e_100_34, e_100_37, e_100_39, e_100_40, e_100_43, e_100_46, e_100_49, e_100_52, e_100_53, Option.bind_some, Option.bind_none, m_kt, m_kn, Option.toList_some, Option.toList_none, List.nil_append, List.cons_append, List.append_nil, ltn, ite_not, ↓reduceIte, true_or, or_true, nP1, oI_s, oI_n, bI_f, bI_t, i1_0, i0_0, Bool.false_eq_true, not_true_eq_false, not_false_eq_true, gC2 H, Int32.le_refl]
    rfl
theorem strengthened_ev (O : mO) (d : Nat) (H : CA h a W) (ha : a < 28) (R : rng W) {fr to st : Nat} {L B BT OP OT : Nat → Int32} (K : WK h (nI fr) (nI to) (nI st) L B BT OP OT) (hfr : fr < pN W) (hto : to < pN W) (hst : st < 24) (LKH : LK W L B BT) {wt : Int32} (hw : bd 0 999 wt) : ∃ h' OP' OT', ev O (d + 3) 99 0 [.ref 56, .ref a, .int wt, mJ] [] h = some (.inl (some (.int (stgV W fr to st wt))), h') ∧ out WS h h' ∧ WK h' (nI fr) (nI to) (nI st) L B BT OP' OT' := by
  have hN := pN_le R
  obtain ⟨e6, e7, e8, e9, e10, e11, LD, e12⟩ := K
  have fo : ev O (d + 2) 92 0 [.ref 56, .ref a, .ref 60, .ref 58, .int wt, mJ, mJ, mJ] [] h = some (.inl none, hO h 60 (lp (fun i P => upd P i (opS (pN W) L B wt i)) 24 OP)) := fillOpen_ev O (d + 2) H ha R e6 e7 e8 e10 (by decide) (by decide) wt
  have F : out WS h (hO h 60 (lp (fun i P => upd P i (opS (pN W) L B wt i)) 24 OP)) := out.st h _ (by unfold WS; omega)
  have hop : ∀ hh, hh < 24 → lp (fun i P => upd P i (opS (pN W) L B wt i)) 24 OP hh = hdS W (nI hh) wt := fun hh h => by
    rw [lp_upd, if_pos h, opS_hd R LKH hw h]
  generalize lp (fun i P => upd P i (opS (pN W) L B wt i)) 24 OP = OP1 at *
  have K1 : WK (hO h 60 OP1) (nI fr) (nI to) (nI st) L B BT OP1 OT := ⟨(hne (by decide)).trans e6, (hne (by decide)).trans e7, (hne (by decide)).trans e8, (hne (by decide)).trans e9, hget e10, (hne (by decide)).trans e11, LD, (hne (by decide)).trans e12⟩
  have H1 := CA_ws H ha F
  generalize hO h 60 OP1 = h1 at *
  obtain ⟨k6, k7, k8, k9, k10, k11, k12⟩ := K1
  have fo2 : ev O (d + 2) 92 0 [.ref 56, .ref a, .ref 61, .ref 59, .int wt, mJ, mJ, mJ] [] h1 = some (.inl none, hO h1 61 (lp (fun i P => upd P i (opS (pN W) L BT wt i)) 24 OT)) := fillOpen_ev O (d + 2) H1 ha R k6 k7 k9 k11 (by decide) (by decide) wt
  have F2 : out WS h1 (hO h1 61 (lp (fun i P => upd P i (opS (pN W) L BT wt i)) 24 OT)) := out.st h1 _ (by unfold WS; omega)
  have hot : ∀ hh, hh < 24 → lp (fun i P => upd P i (opS (pN W) L BT wt i)) 24 OT hh = htS W (nI hh) wt := fun hh h => by
    rw [lp_upd, if_pos h]
    refine bs_congr (fun p hp => ?_)
    rw [LKH.1 hh p h (by omega), (LKH.2 p hp).2]
    exact le_vB R _ _ _ hw
  generalize lp (fun i P => upd P i (opS (pN W) L BT wt i)) 24 OT = OT1 at *
  have K2 : WK (hO h1 61 OT1) (nI fr) (nI to) (nI st) L B BT OP1 OT1 := ⟨(hne (by decide)).trans k6, (hne (by decide)).trans k7, (hne (by decide)).trans k8, (hne (by decide)).trans k9, (hne (by decide)).trans k10, hget k11, k12.elim fun LD e => ⟨LD, (hne (by decide)).trans e⟩⟩
  have H2 := CA_ws H1 ha F2
  generalize hO h1 61 OT1 = h2 at *
  have hx := fun s => ifThick_ev O (d + 1) H2 R K2 hfr hto hst hop hot s
  refine ⟨h2, OP1, OT1, ?_, F.tr1 F2, K2⟩
  have hsg : ∀ s, (hoS (wN W) (gN W) (tkT W st wt s) fr to).isSome = sgB W fr to st wt s := fun _ => rfl
  have e := fd_runV (ν := Unit) (c := fun p => sgB W fr to st wt (shl1 p)) (n := pN W) (F := fun i _ => ev O (d + 3) 99 57 [.ref 56, .ref a, .int wt, .int (nI i)] [] h2) (r := fun p => some (.inl (some (.int (shl1 p))), h2)) (fun i v hi => by
    have h1 : ¬ nI (pN W) ≤ nI i := nI_ge hi (by omega)
    rw [e_99_57]
    refine ⟨fun hc => ?_, fun hc => ⟨(), ?_⟩⟩ <;> simp only [e_99_0, e_99_1, e_99_2, e_99_3, e_99_6, e_99_7, e_99_10, e_99_11, e_99_14, e_99_15, e_99_16, e_99_17, e_99_20, e_99_21, e_99_24, e_99_25, e_99_28, e_99_29, e_99_30, e_99_31, e_99_34, e_99_35, e_99_38, e_99_39, e_99_40, e_99_41, e_99_42, e_99_43, e_99_46, e_99_49, e_99_50, e_99_53, e_99_54, e_99_55, e_99_56, e_99_58, e_99_59, e_99_62, e_99_65, e_99_66, e_99_67, e_99_68, e_99_69, e_99_70, e_99_73, e_99_74, e_99_77, e_99_78, e_99_79, e_99_80, e_99_81, e_99_84, e_99_87, e_99_88, e_99_89, e_99_92, Option.bind_some, Option.bind_none, m_kt, m_kn, Option.toList_some, Option.toList_none, List.nil_append, List.cons_append, List.append_nil, ltn, ite_not, ↓reduceIte, true_or, or_true, nP1, oI_s, oI_n, bI_f, bI_t, i1_0, i0_0, Bool.false_eq_true, not_true_eq_false, not_false_eq_true, gC2 H2, h1, shl_nI, W_isc K2.1, hx, oI_m1 ho_lt, hsg, hc, Bool.true_eq_false]) ()
  cases c0 : sgB W fr to st wt 0
  · cases c1 : sgB W fr to st wt (allI (wN W) (gN W))
    · rw [stg_none R hto c1]
      simp only [e_99_0, e_99_1, e_99_2, e_99_3, e_99_6, e_99_7, e_99_10, e_99_11, e_99_14, e_99_15, e_99_16, e_99_17, e_99_20, e_99_21, e_99_24, e_99_25, e_99_28, e_99_29, e_99_30, e_99_31, e_99_34, e_99_35, e_99_38, e_99_39, e_99_40, e_99_41, e_99_42, e_99_43, e_99_46, e_99_49, e_99_50, e_99_53, e_99_54, e_99_55, e_99_56, e_99_58, e_99_59, e_99_62, e_99_65, e_99_66, e_99_67, e_99_68, e_99_69, e_99_70, e_99_73, e_99_74, e_99_77, e_99_78, e_99_79, e_99_80, e_99_81, e_99_84, e_99_87, e_99_88, e_99_89, e_99_92, Option.bind_some, Option.bind_none, m_kt, m_kn, Option.toList_some, Option.toList_none, List.nil_append, List.cons_append, List.append_nil, ltn, ite_not, ↓reduceIte, true_or, or_true, nP1, oI_s, oI_n, bI_f, bI_t, i1_0, i0_0, Bool.false_eq_true, not_true_eq_false, not_false_eq_true, gW6 e6, gW4 e6, W_isc e6, fo, gW7 k6, gW5 k6, W_isc k6, fo2, W_isc K2.1, hx, oI_m1 ho_lt, hsg, c0, gC3 H2, c1]
    · simp only [e_99_0, e_99_1, e_99_2, e_99_3, e_99_6, e_99_7, e_99_10, e_99_11, e_99_14, e_99_15, e_99_16, e_99_17, e_99_20, e_99_21, e_99_24, e_99_25, e_99_28, e_99_29, e_99_30, e_99_31, e_99_34, e_99_35, e_99_38, e_99_39, e_99_40, e_99_41, e_99_42, e_99_43, e_99_46, e_99_49, e_99_50, e_99_53, e_99_54, e_99_55, e_99_56, e_99_58, e_99_59, e_99_62, e_99_65, e_99_66, e_99_67, e_99_68, e_99_69, e_99_70, e_99_73, e_99_74, e_99_77, e_99_78, e_99_79, e_99_80, e_99_81, e_99_84, e_99_87, e_99_88, e_99_89, e_99_92, Option.bind_some, Option.bind_none, m_kt, m_kn, Option.toList_some, Option.toList_none, List.nil_append, List.cons_append, List.append_nil, ltn, ite_not, ↓reduceIte, true_or, or_true, nP1, oI_s, oI_n, bI_f, bI_t, i1_0, i0_0, Bool.false_eq_true, not_true_eq_false, not_false_eq_true, gW6 e6, gW4 e6, W_isc e6, fo, gW7 k6, gW5 k6, W_isc k6, fo2, W_isc K2.1, hx, oI_m1 ho_lt, hsg, c0, gC3 H2, c1, Bool.true_eq_false]
      simp only [nI_0] at e
      unfold stgV
      rw [c0, if_neg (by simp)]
      rcases e with ⟨i, ei, e⟩ | ⟨en, v, e⟩
      · rw [ei]; exact e
      · rw [en]
        refine e.trans ?_
        rw [e_99_57]
        simp only [e_99_0, e_99_1, e_99_2, e_99_3, e_99_6, e_99_7, e_99_10, e_99_11, e_99_14, e_99_15, e_99_16, e_99_17, e_99_20, e_99_21, e_99_24, e_99_25, e_99_28, e_99_29, e_99_30, e_99_31, e_99_34, e_99_35, e_99_38, e_99_39, e_99_40, e_99_41, e_99_42, e_99_43, e_99_46, e_99_49, e_99_50, e_99_53, e_99_54, e_99_55, e_99_56, e_99_58, e_99_59, e_99_62, e_99_65, e_99_66, e_99_67, e_99_68, e_99_69, e_99_70, e_99_73, e_99_74, e_99_77, e_99_78, e_99_79, e_99_80, e_99_81, e_99_84, e_99_87, e_99_88, e_99_89, e_99_92, Option.bind_some, Option.bind_none, m_kt, m_kn, Option.toList_some, Option.toList_none, List.nil_append, List.cons_append, List.append_nil, ltn, ite_not, ↓reduceIte, true_or, or_true, nP1, oI_s, oI_n, bI_f, bI_t, i1_0, i0_0, Bool.false_eq_true, not_true_eq_false, not_false_eq_true, gC2 H2, Int32.le_refl, W_isc K2.1, strPair_ev O d H2 R K2 hfr hto hst hop hot, Option.elim_none]
  · simp only [e_99_0, e_99_1, e_99_2, e_99_3, e_99_6, e_99_7, e_99_10, e_99_11, e_99_14, e_99_15, e_99_16, e_99_17, e_99_20, e_99_21, e_99_24, e_99_25, e_99_28, e_99_29, e_99_30, e_99_31, e_99_34, e_99_35, e_99_38, e_99_39, e_99_40, e_99_41, e_99_42, e_99_43, e_99_46, e_99_49, e_99_50, e_99_53, e_99_54, e_99_55, e_99_56, e_99_58, e_99_59, e_99_62, e_99_65, e_99_66, e_99_67, e_99_68, e_99_69, e_99_70, e_99_73, e_99_74, e_99_77, e_99_78, e_99_79, e_99_80, e_99_81, e_99_84, e_99_87, e_99_88, e_99_89, e_99_92, Option.bind_some, Option.bind_none, m_kt, m_kn, Option.toList_some, Option.toList_none, List.nil_append, List.cons_append, List.append_nil, ltn, ite_not, ↓reduceIte, true_or, or_true, nP1, oI_s, oI_n, bI_f, bI_t, i1_0, i0_0, Bool.false_eq_true, not_true_eq_false, not_false_eq_true, gW6 e6, gW4 e6, W_isc e6, fo, gW7 k6, gW5 k6, W_isc k6, fo2, W_isc K2.1, hx, oI_m1 ho_lt, hsg, c0, Bool.true_eq_false]
    unfold stgV
    rw [c0]
    rfl
def codeS (W : WD) (x y z u : Int32) : Nat := if (nPa W x && nPa W y && inB z 0 23) = true then (if inB u 0 999 = true then 0 else 2) else 1
def strV (W : WD) (x y z u : Int32) : Int32 := stgV W x.toNatClampNeg y.toNatClampNeg z.toNatClampNeg u
theorem Gstrengthen_ev {g : gT} (O : mO) (d : Nat) (C : CG h g W) (x y z u : Int32) : GA (ev O (d + 4) 124 0 [.ref 0, .int x, .int y, .int z, .int u] [] h) h (if codeS W x y z u = 1 then some 1 else if codeS W x y z u = 2 then some 0 else none) (.int (strV W x y z u)) := by
  obtain ⟨G, H, ga, R, S⟩ := C
  have hN := pN_le R
  have hcw := checkWay_ev O (d + 2) G H R x y z
  unfold codeS
  cases c1 : (nPa W x && nPa W y && inB z 0 23)
  · simp only [Bool.false_eq_true, ↓reduceIte]
    unfold nPa at c1
    rw [c1] at hcw
    show _ = _
    simp only [e_124_0, e_124_1, e_124_2, e_124_3, e_124_4, e_124_7, e_124_9, e_124_10, e_124_13, e_124_16, e_124_17, e_124_20, e_124_21, e_124_24, e_124_25, e_124_26, e_124_27, e_124_30, e_124_31, e_124_34, e_124_35, e_124_38, e_124_40, e_124_43, Option.bind_some, Option.bind_none, m_kt, m_kn, Option.toList_some, Option.toList_none, List.nil_append, List.cons_append, List.append_nil, ltn, ite_not, ↓reduceIte, true_or, or_true, nP1, oI_s, oI_n, bI_f, bI_t, i1_0, i0_0, Bool.false_eq_true, not_true_eq_false, not_false_eq_true, iscG G, hcw]
  · unfold nPa at c1
    rw [c1] at hcw
    cases c2 : inB u 0 999
    · simp only [Bool.false_eq_true, ↓reduceIte]
      show _ = _
      simp only [e_124_0, e_124_1, e_124_2, e_124_3, e_124_4, e_124_7, e_124_9, e_124_10, e_124_13, e_124_16, e_124_17, e_124_20, e_124_21, e_124_24, e_124_25, e_124_26, e_124_27, e_124_30, e_124_31, e_124_34, e_124_35, e_124_38, e_124_40, e_124_43, Option.bind_some, Option.bind_none, m_kt, m_kn, Option.toList_some, Option.toList_none, List.nil_append, List.cons_append, List.append_nil, ltn, ite_not, ↓reduceIte, true_or, or_true, nP1, oI_s, oI_n, bI_f, bI_t, i1_0, i0_0, Bool.false_eq_true, not_true_eq_false, not_false_eq_true, iscG G, hcw, checkWithin_ev, c2]
    · simp only [↓reduceIte]
      simp only [Bool.and_eq_true] at c1
      obtain ⟨fr, hfr, rfl⟩ := inB_ix (by omega) c1.1.1
      obtain ⟨to, hto, rfl⟩ := inB_ix (by omega) c1.1.2
      obtain ⟨st, hst, rfl⟩ := inB_h c1.2
      obtain ⟨f, t, s, L, B, BT, OP, OT, K⟩ := SH_WK S
      obtain ⟨h1, L1, B1, BT1, el, F1, K1, lk1, lk2⟩ := look_ev O (d + 1) H (by omega) R K (nI fr) (nI to) (nI st)
      have H1 := CA_ws H (by omega) F1
      have G1 : h1.1[0]? = some (oG g) := (F1.2.2 0 (by unfold WS; omega)).trans G
      obtain ⟨h2, OP2, OT2, eh, F2, K2⟩ := strengthened_ev O d H1 (by omega) R K1 hfr hto hst ⟨lk1, lk2⟩ (inB_999 c2)
      unfold strV
      rw [nI_clamp (show fr < 2 ^ 31 by omega), nI_clamp (show to < 2 ^ 31 by omega), nI_clamp (show st < 2 ^ 31 by omega)]
      refine ⟨h2, ?_, (sc_ws F1 K1).tr (sc_ws F2 K2)⟩
      simp only [e_124_0, e_124_1, e_124_2, e_124_3, e_124_4, e_124_7, e_124_9, e_124_10, e_124_13, e_124_16, e_124_17, e_124_20, e_124_21, e_124_24, e_124_25, e_124_26, e_124_27, e_124_30, e_124_31, e_124_34, e_124_35, e_124_38, e_124_40, e_124_43, Option.bind_some, Option.bind_none, m_kt, m_kn, Option.toList_some, Option.toList_none, List.nil_append, List.cons_append, List.append_nil, ltn, ite_not, ↓reduceIte, true_or, or_true, nP1, oI_s, oI_n, bI_f, bI_t, i1_0, i0_0, Bool.false_eq_true, not_true_eq_false, not_false_eq_true, iscG G, hcw, checkWithin_ev, c2, gG9 G, gG0 G, W_isc K.1, el, gG9 G1, gG0 G1, W_isc K1.1, eh]
end GStr
/-! The reference's strengthen -/
def tkW (W : WD) (a b : Nat) : WD := upd (upd W (7 + 6 * a) 9) (7 + 6 * b) 9
theorem tkW_n {W : WD} {a b i : Nat} (h1 : i ≠ 7 + 6 * a) (h2 : i ≠ 7 + 6 * b) : tkW W a b i = W i := (pk_un h2).trans (pk_un h1)
theorem tkW_t {W : WD} {a b p : Nat} : tkW W a b (7 + 6 * p) = if p = a ∨ p = b then 9 else W (7 + 6 * p) := by
  unfold tkW
  by_cases h2 : p = b
  · subst h2; rw [pk_us, if_pos (.inr rfl)]
  · rw [pk_un (by omega)]
    by_cases h1 : p = a
    · subst h1; rw [pk_us, if_pos (.inl rfl)]
    · rw [pk_un (by omega), if_neg (by omega)]
section TkW
variable {W : WD} {a b : Nat}
theorem tk_wN : wN (tkW W a b) = wN W := by unfold wN; rw [tkW_n (by omega) (by omega)]
theorem tk_gN : gN (tkW W a b) = gN W := by unfold gN; rw [tkW_n (by omega) (by omega)]
theorem tk_pN : pN (tkW W a b) = pN W := by unfold pN; rw [tk_wN, tk_gN]
theorem tk_kN : kN (tkW W a b) = kN W := by unfold kN; rw [tkW_n (by omega) (by omega)]
theorem tk_sN : sN (tkW W a b) = sN W := by unfold sN; rw [tkW_n (by omega) (by omega)]
theorem tk_rng (R : rng W) (ha : a < 30) (hb : b < 30) : rng (tkW W a b) := by
  obtain ⟨r1, r2, r3, r4⟩ := R
  refine ⟨?_, ?_, ?_, ?_⟩
  · unfold rngN at *
    rw [tk_wN, tk_gN, tk_kN, tk_sN, tkW_n (i := 0) (by omega) (by omega), tkW_n (i := 1) (by omega) (by omega), tkW_n (i := 2) (by omega) (by omega), tkW_n (i := 5) (by omega) (by omega), tkW_n (i := 3) (by omega) (by omega), tkW_n (i := 6) (by omega) (by omega)]
    exact r1
  · intro p hp
    have q := r2 p hp
    rw [tkW_t, tkW_n (i := 7 + 6 * p + 1) (by omega) (by omega), tkW_n (i := 7 + 6 * p + 2) (by omega) (by omega), tkW_n (i := 7 + 6 * p + 3) (by omega) (by omega), tkW_n (i := 7 + 6 * p + 4) (by omega) (by omega), tkW_n (i := 7 + 6 * p + 5) (by omega) (by omega)]
    refine ⟨?_, q.2⟩
    split
    · unfold bd; decide
    · exact q.1
  · intro k hk
    rw [tk_kN] at hk
    have := r3 k hk
    rw [tk_pN, tkW_n (i := 187 + 5 * k) (by omega) (by omega), tkW_n (i := 187 + 5 * k + 1) (by omega) (by omega), tkW_n (i := 187 + 5 * k + 2) (by omega) (by omega), tkW_n (i := 187 + 5 * k + 3) (by omega) (by omega), tkW_n (i := 187 + 5 * k + 4) (by omega) (by omega)]
    exact this
  · intro i hi
    rw [tkW_n (i := 247 + i) (by omega) (by omega)]
    exact r4 i hi
theorem tk_brk (p : Nat) : brk (tkW W a b) p = brk W p := by unfold brk; rw [tkW_n (by omega) (by omega)]
theorem tk_load (ha : a < 30) (hb : b < 30) (p hr : Int32) : loadS (tkW W a b) p hr = loadS W p hr := by
  unfold loadS
  rw [tk_kN]
  refine lp_congr (fun k s _ => ?_) 0
  unfold prs
  rw [tkW_n (i := 187 + 5 * k) (by omega) (by omega), tkW_n (i := 187 + 5 * k + 1) (by omega) (by omega), tkW_n (i := 187 + 5 * k + 2) (by omega) (by omega), tkW_n (i := 187 + 5 * k + 3) (by omega) (by omega), tkW_n (i := 187 + 5 * k + 4) (by omega) (by omega)]
theorem tk_bea (p : Nat) : bea (tkW W a b) p = if p = a ∨ p = b then beaT W p 9 else bea W p := by
  unfold bea
  have e : ∀ t, beaT (tkW W a b) p t = beaT W p t := fun t => by unfold beaT; rw [tk_brk, tkW_n (i := 7 + 6 * p + 3) (by omega) (by omega), tkW_n (i := 7 + 6 * p + 1) (by omega) (by omega)]
  rw [e, tkW_t]
  split <;> rfl
theorem bea_9 (R : rng W) {p : Nat} (hp : p < 30) : bea W p ≤ beaT W p 9 := by
  obtain ⟨te, t1, t9⟩ := tNe R hp
  rw [i_le, bea_T R hp, beaT_toInt R hp t9, show (9 : Int32) = nI 9 from rfl, beaT_toInt R hp (Nat.le_refl 9)]
  have tt : 10 * tN W p * tN W p ≤ 10 * 9 * 9 := Nat.mul_le_mul (Nat.mul_le_mul_left _ t9) t9
  split <;> omega
theorem tk_hd (R : rng W) (ha : a < pN W) (hb : b < pN W) (st : Nat) (wt : Int32) (t : Nat) : hdT (tkW W a b) st wt t = tkT W st wt (shl1 a ||| shl1 b) t := by
  have hN := pN_le R
  unfold hdT tkT
  generalize nI ((st + t) % 24) = hr
  apply b_ext
  intro i hi
  unfold hdS htS
  rw [b_or, b_and, b_or, tk_pN, bt_bs (by omega) _ hi, bt_bs (by omega) _ hi, bt_bs (by omega) _ hi, bt_shl1 (by omega) hi, bt_shl1 (by omega) hi]
  by_cases hin : i < pN W
  · rw [decide_eq_true hin]
    simp only [Bool.true_and]
    unfold hlB
    rw [tk_brk, tk_load (by omega) (by omega), tk_bea]
    cases brk W i
    · simp only [Bool.not_false, Bool.true_and]
      by_cases c : i = a ∨ i = b
      · rw [if_pos c]
        have c2 : (decide (i = a) || decide (i = b)) = true := by rw [Bool.or_eq_true, decide_eq_true_eq, decide_eq_true_eq]; exact c
        rw [c2, Bool.and_true]
        by_cases d1 : loadS W (nI i) hr + wt ≤ bea W i
        · have d2 : loadS W (nI i) hr + wt ≤ beaT W i 9 := Int32.le_trans d1 (bea_9 R (by omega))
          simp [d1, d2]
        · simp [d1]
      · rw [if_neg c]
        have c2 : (decide (i = a) || decide (i = b)) = false := by
          rw [Bool.or_eq_false_iff, decide_eq_false_iff_not, decide_eq_false_iff_not]; exact ⟨fun q => c (.inl q), fun q => c (.inr q)⟩
        rw [c2, Bool.and_false, Bool.or_false]
    · simp
  · rw [decide_eq_false hin]
    simp
end TkW
section MStr
variable {h : mH} {m : Nat → Int32} {W : WD}
def hT (h : mH) (V : WD) : mH := (h.1.set 67 (aI 2101 V), h.2)
theorem hT_hT (h : mH) (V V' : WD) : hT (hT h V) V' = hT h V' := by unfold hT; rw [List.set_set]
theorem MS.hT {h : mH} {m : Nat → Int32} {W : WD} (H : MS h m W) (V : WD) : MS (hT h V) m V := ⟨(hne (by decide)).trans H.1, hget H.2⟩
theorem sets_ev (O : mO) (d : Nat) (H : MS h m W) {p k : Nat} (hp : p < 30) (hk : k < 6) (x : Int32) : ev O (d) 159 0 [.ref 66, .int (nI p), .int (nI k), .int x] [] h = some (.inl none, hT h (upd W (7 + 6 * p + k) x)) := by
  simp only [e_159_0, e_159_1, e_159_4, e_159_6, e_159_8, e_159_9, e_159_10, e_159_11, e_159_12, e_159_13, e_159_14, e_159_15, Option.bind_some, Option.bind_none, m_kt, m_kn, Option.toList_some, Option.toList_none, List.nil_append, List.cons_append, List.append_nil, ltn, ite_not, ↓reduceIte, true_or, or_true, gM1 H.1, n6, nL7, nA, si_n H.2 (show 7 + 6 * p + k < 2101 by omega) (by decide)]
  rfl
theorem sets0_ev (O : mO) (d : Nat) (H : MS h m W) {p : Nat} (hp : p < 30) (x : Int32) : ev O (d) 159 0 [.ref 66, .int (nI p), .int 0, .int x] [] h = some (.inl none, hT h (upd W (7 + 6 * p) x)) := sets_ev O d H hp (k := 0) (by omega) x
theorem leads_ev (O : mO) (d : Nat) (H : MS h m W) (R : rng W) {v0 : Nat → Int32} (e7 : h.1[77]? = some (aI 49 v0)) {fr to st : Nat} (hfr : fr < pN W) (hto : to < pN W) (hst : st < 24) (wt : Int32) {a b : Nat} (ha : a < pN W) (hb : b < pN W) : ∃ v, ev O (d + 6) 236 0 [.ref 66, .int (nI fr), .int (nI to), .int (nI st), .int wt, .int (nI a), .int (nI b), mJ, mJ, mJ] [] h = some (.inl (some (.int (bI (sgB W fr to st wt (shl1 a ||| shl1 b))))), hR h v) := by
  have hN := pN_le R
  have ha3 : a < 30 := by omega
  have hb3 : b < 30 := by omega
  have H1 := H.hT (upd W (7 + 6 * a) 9)
  have H2 := H.hT (tkW W a b)
  have e7' : (hT h (tkW W a b)).1[77]? = some (aI 49 v0) := (hne (by decide)).trans e7
  obtain ⟨v, eh⟩ := hours_ev O d H2 (tk_rng R ha3 hb3) e7' (fr := fr) (to := to) (by rw [tk_pN]; exact hfr) (by rw [tk_pN]; exact hto) hst wt
  have H3 := H2.hR v
  have H4 := H3.hT (upd (tkW W a b) (7 + 6 * b) (W (7 + 6 * b)))
  have s2 := sets0_ev O (d + 5) H1 hb3 9
  rw [hT_hT] at s2
  have s2 : ev O (d + 5) 159 0 [.ref 66, .int (nI b), .int 0, .int 9] [] (hT h (upd W (7 + 6 * a) 9)) = some (.inl none, hT h (tkW W a b)) := s2
  have s4 := sets0_ev O (d + 5) H4 ha3 (W (7 + 6 * a))
  rw [hT_hT] at s4
  have back : upd (upd (tkW W a b) (7 + 6 * b) (W (7 + 6 * b))) (7 + 6 * a) (W (7 + 6 * a)) = W := by
    funext i
    by_cases c : i = 7 + 6 * a
    · subst c; exact pk_us
    · rw [pk_un c]
      by_cases c2 : i = 7 + 6 * b
      · subst c2; exact pk_us
      · rw [pk_un c2, tkW_n c c2]
  have hb4 : hT (hR (hT h (tkW W a b)) v) W = hR h v := by
    unfold hT hR
    simp only
    rw [List.set_comm _ _ (show (77 : Nat) ≠ 67 by decide), List.set_set, hset H.2]
  rw [back, hb4] at s4
  rw [tk_wN, tk_gN, hoS_congr (fun t => tk_hd R ha hb st wt t)] at eh
  refine ⟨v, ?_⟩
  have hsg : (hoS (wN W) (gN W) (tkT W st wt (shl1 a ||| shl1 b)) fr to).isSome = sgB W fr to st wt (shl1 a ||| shl1 b) := rfl
  cases c : sgB W fr to st wt (shl1 a ||| shl1 b) <;> simp only [e_236_0, e_236_1, e_236_3, e_236_4, e_236_7, e_236_9, e_236_10, e_236_12, e_236_13, e_236_16, e_236_18, e_236_19, e_236_21, e_236_22, e_236_24, e_236_27, e_236_28, e_236_30, e_236_31, e_236_33, e_236_36, e_236_37, e_236_38, e_236_39, e_236_40, e_236_42, e_236_45, e_236_48, e_236_49, e_236_52, e_236_53, e_236_55, e_236_56, e_236_58, e_236_59, e_236_61, e_236_64, e_236_65, e_236_67, e_236_68, e_236_70, e_236_73, e_236_75, Option.bind_some, Option.bind_none, m_kt, m_kn, Option.toList_some, Option.toList_none, List.nil_append, List.cons_append, List.append_nil, ltn, ite_not, ↓reduceIte, true_or, or_true, nP1, oI_s, oI_n, bI_f, bI_t, i1_0, i0_0, Bool.false_eq_true, not_true_eq_false, not_false_eq_true, H.isc, of0_ev O (d + 5) H.w ha3, of0_ev O (d + 5) H.w hb3, sets0_ev O (d + 5) H ha3, H1.isc, s2, H2.isc, eh, oI_ge ho_lt, hsg, c, H3.isc, sets0_ev O (d + 5) H3 hb3, H4.isc, s4, z01, o01]
theorem or_self32 (x : Int32) : x ||| x = x := by apply b_ext; intro i hi; rw [b_or, Bool.or_self]
theorem Mstrengthen_ev (O : mO) (d : Nat) (H : MS h m W) (R : rng W) (S : SH h) (x y z u : Int32) : MA (ev O (d + 7) 237 0 [.ref 66, .int x, .int y, .int z, .int u, mJ, mJ] [] h) h m (nI (codeS W x y z u)) (.int (if codeS W x y z u = 0 then strV W x y z u else 0)) := by
  have H0 := H.t 0
  have hN := pN_le R
  have hP := pN_pos R
  unfold codeS nPa
  cases c1 : (inB x 0 (nI (pN W) - 1) && inB y 0 (nI (pN W) - 1) && inB z 0 23)
  · refine ⟨tH h m 1, ?_, sc.rf _⟩
    cases a1 : inB x 0 (nI (pN W) - 1)
    · simp only [e_237_0, e_237_1, e_237_2, e_237_5, e_237_6, e_237_7, e_237_8, e_237_11, e_237_14, e_237_15, e_237_16, e_237_19, e_237_22, e_237_23, e_237_26, e_237_29, e_237_30, e_237_33, e_237_34, e_237_35, e_237_38, e_237_41, e_237_42, e_237_44, e_237_45, e_237_48, e_237_51, e_237_54, e_237_55, e_237_58, e_237_59, e_237_60, e_237_63, e_237_66, e_237_67, e_237_68, e_237_69, e_237_70, e_237_71, e_237_72, e_237_74, e_237_77, e_237_80, e_237_81, e_237_82, e_237_83, e_237_85, e_237_87, e_237_88, e_237_91, e_237_94, e_237_95, e_237_96, e_237_97, e_237_98, e_237_100, e_237_102, e_237_104, e_237_107, e_237_110, e_237_111, e_237_113, e_237_114, e_237_115, e_237_118, e_237_121, e_237_122, e_237_124, e_237_126, e_237_127, e_237_130, e_237_133, e_237_134, e_237_136, e_237_138, e_237_140, e_237_143, e_237_144, e_237_145, e_237_146, e_237_147, e_237_149, e_237_151, e_237_153, e_237_156, e_237_159, e_237_160, e_237_162, e_237_163, e_237_164, e_237_166, e_237_167, e_237_168, e_237_169, e_237_172, e_237_175, e_237_178, e_237_181, e_237_182, Option.bind_some, Option.bind_none, m_kt, m_kn, Option.toList_some, Option.toList_none, List.nil_append, List.cons_append, List.append_nil, ltn, ite_not, ↓reduceIte, true_or, or_true, nP1, oI_s, oI_n, bI_f, bI_t, i1_0, i0_0, Bool.false_eq_true, not_true_eq_false, not_false_eq_true, nI_0, m1m1, Nat.one_ne_zero, two_ne0, pMt H, H0.isc, noPane_ev O _ H0.w R, noHour_ev, noSeer_ev O _ H0.w, in_ev, Bool.not_false, Bool.not_true, bI_f, bI_t, thr0_ev O _ H0, thr1_ev O _ H0, i1_0, i0_0, z01, o01, tH_tH, Bool.false_eq_true, a1]
    · cases a2 : inB y 0 (nI (pN W) - 1)
      · simp only [e_237_0, e_237_1, e_237_2, e_237_5, e_237_6, e_237_7, e_237_8, e_237_11, e_237_14, e_237_15, e_237_16, e_237_19, e_237_22, e_237_23, e_237_26, e_237_29, e_237_30, e_237_33, e_237_34, e_237_35, e_237_38, e_237_41, e_237_42, e_237_44, e_237_45, e_237_48, e_237_51, e_237_54, e_237_55, e_237_58, e_237_59, e_237_60, e_237_63, e_237_66, e_237_67, e_237_68, e_237_69, e_237_70, e_237_71, e_237_72, e_237_74, e_237_77, e_237_80, e_237_81, e_237_82, e_237_83, e_237_85, e_237_87, e_237_88, e_237_91, e_237_94, e_237_95, e_237_96, e_237_97, e_237_98, e_237_100, e_237_102, e_237_104, e_237_107, e_237_110, e_237_111, e_237_113, e_237_114, e_237_115, e_237_118, e_237_121, e_237_122, e_237_124, e_237_126, e_237_127, e_237_130, e_237_133, e_237_134, e_237_136, e_237_138, e_237_140, e_237_143, e_237_144, e_237_145, e_237_146, e_237_147, e_237_149, e_237_151, e_237_153, e_237_156, e_237_159, e_237_160, e_237_162, e_237_163, e_237_164, e_237_166, e_237_167, e_237_168, e_237_169, e_237_172, e_237_175, e_237_178, e_237_181, e_237_182, Option.bind_some, Option.bind_none, m_kt, m_kn, Option.toList_some, Option.toList_none, List.nil_append, List.cons_append, List.append_nil, ltn, ite_not, ↓reduceIte, true_or, or_true, nP1, oI_s, oI_n, bI_f, bI_t, i1_0, i0_0, Bool.false_eq_true, not_true_eq_false, not_false_eq_true, nI_0, m1m1, Nat.one_ne_zero, two_ne0, pMt H, H0.isc, noPane_ev O _ H0.w R, noHour_ev, noSeer_ev O _ H0.w, in_ev, Bool.not_false, Bool.not_true, bI_f, bI_t, thr0_ev O _ H0, thr1_ev O _ H0, i1_0, i0_0, z01, o01, tH_tH, Bool.false_eq_true, a1, a2]
      · have a3 : inB z 0 23 = false := by rw [a1, a2] at c1; simpa using c1
        simp only [e_237_0, e_237_1, e_237_2, e_237_5, e_237_6, e_237_7, e_237_8, e_237_11, e_237_14, e_237_15, e_237_16, e_237_19, e_237_22, e_237_23, e_237_26, e_237_29, e_237_30, e_237_33, e_237_34, e_237_35, e_237_38, e_237_41, e_237_42, e_237_44, e_237_45, e_237_48, e_237_51, e_237_54, e_237_55, e_237_58, e_237_59, e_237_60, e_237_63, e_237_66, e_237_67, e_237_68, e_237_69, e_237_70, e_237_71, e_237_72, e_237_74, e_237_77, e_237_80, e_237_81, e_237_82, e_237_83, e_237_85, e_237_87, e_237_88, e_237_91, e_237_94, e_237_95, e_237_96, e_237_97, e_237_98, e_237_100, e_237_102, e_237_104, e_237_107, e_237_110, e_237_111, e_237_113, e_237_114, e_237_115, e_237_118, e_237_121, e_237_122, e_237_124, e_237_126, e_237_127, e_237_130, e_237_133, e_237_134, e_237_136, e_237_138, e_237_140, e_237_143, e_237_144, e_237_145, e_237_146, e_237_147, e_237_149, e_237_151, e_237_153, e_237_156, e_237_159, e_237_160, e_237_162, e_237_163, e_237_164, e_237_166, e_237_167, e_237_168, e_237_169, e_237_172, e_237_175, e_237_178, e_237_181, e_237_182, Option.bind_some, Option.bind_none, m_kt, m_kn, Option.toList_some, Option.toList_none, List.nil_append, List.cons_append, List.append_nil, ltn, ite_not, ↓reduceIte, true_or, or_true, nP1, oI_s, oI_n, bI_f, bI_t, i1_0, i0_0, Bool.false_eq_true, not_true_eq_false, not_false_eq_true, nI_0, m1m1, Nat.one_ne_zero, two_ne0, pMt H, H0.isc, noPane_ev O _ H0.w R, noHour_ev, noSeer_ev O _ H0.w, in_ev, Bool.not_false, Bool.not_true, bI_f, bI_t, thr0_ev O _ H0, thr1_ev O _ H0, i1_0, i0_0, z01, o01, tH_tH, Bool.false_eq_true, a1, a2, a3]
  · simp only [Bool.and_eq_true] at c1
    obtain ⟨⟨a1, a2⟩, a3⟩ := c1
    cases c2 : inB u 0 999
    · refine ⟨tH h m 2, ?_, sc.rf _⟩
      simp only [e_237_0, e_237_1, e_237_2, e_237_5, e_237_6, e_237_7, e_237_8, e_237_11, e_237_14, e_237_15, e_237_16, e_237_19, e_237_22, e_237_23, e_237_26, e_237_29, e_237_30, e_237_33, e_237_34, e_237_35, e_237_38, e_237_41, e_237_42, e_237_44, e_237_45, e_237_48, e_237_51, e_237_54, e_237_55, e_237_58, e_237_59, e_237_60, e_237_63, e_237_66, e_237_67, e_237_68, e_237_69, e_237_70, e_237_71, e_237_72, e_237_74, e_237_77, e_237_80, e_237_81, e_237_82, e_237_83, e_237_85, e_237_87, e_237_88, e_237_91, e_237_94, e_237_95, e_237_96, e_237_97, e_237_98, e_237_100, e_237_102, e_237_104, e_237_107, e_237_110, e_237_111, e_237_113, e_237_114, e_237_115, e_237_118, e_237_121, e_237_122, e_237_124, e_237_126, e_237_127, e_237_130, e_237_133, e_237_134, e_237_136, e_237_138, e_237_140, e_237_143, e_237_144, e_237_145, e_237_146, e_237_147, e_237_149, e_237_151, e_237_153, e_237_156, e_237_159, e_237_160, e_237_162, e_237_163, e_237_164, e_237_166, e_237_167, e_237_168, e_237_169, e_237_172, e_237_175, e_237_178, e_237_181, e_237_182, Option.bind_some, Option.bind_none, m_kt, m_kn, Option.toList_some, Option.toList_none, List.nil_append, List.cons_append, List.append_nil, ltn, ite_not, ↓reduceIte, true_or, or_true, nP1, oI_s, oI_n, bI_f, bI_t, i1_0, i0_0, Bool.false_eq_true, not_true_eq_false, not_false_eq_true, nI_0, m1m1, Nat.one_ne_zero, two_ne0, pMt H, H0.isc, noPane_ev O _ H0.w R, noHour_ev, noSeer_ev O _ H0.w, in_ev, Bool.not_false, Bool.not_true, bI_f, bI_t, thr0_ev O _ H0, thr1_ev O _ H0, i1_0, i0_0, z01, o01, tH_tH, Bool.false_eq_true, a1, a2, a3, c2]
    · have b1 := a1
      have b2 := a2
      have b3 := a3
      obtain ⟨fr, hfr, rfl⟩ := inB_ix (by omega) a1
      obtain ⟨to, hto, rfl⟩ := inB_ix (by omega) a2
      obtain ⟨st, hst, rfl⟩ := inB_h a3
      obtain ⟨v0, e7⟩ := (SH_tH S m 0).at (b := 77) (n := 49) (by decide)
      obtain ⟨v1, eh⟩ := hours_ev O (d + 1) H0 R e7 hfr hto hst u
      unfold strV stgV
      rw [nI_clamp (show fr < 2 ^ 31 by omega), nI_clamp (show to < 2 ^ 31 by omega), nI_clamp (show st < 2 ^ 31 by omega)]
      have h00 : hoS (wN W) (gN W) (hdT W st u) fr to = hoS (wN W) (gN W) (tkT W st u 0) fr to := hoS_congr (fun t => by
        unfold tkT hdT
        have : ∀ x : Int32, x &&& 0 = 0 := fun x => by apply b_ext; intro i hi; rw [b_and, b_0, Bool.and_false]
        rw [this, or_0]) _ _
      rw [h00] at eh
      have hsg : (hoS (wN W) (gN W) (tkT W st u 0) fr to).isSome = sgB W fr to st u 0 := rfl
      cases c0 : sgB W fr to st u 0
      · have pr : ∀ (f : Nat → Int32) (w : Value), ∃ f', ev O (d + 7) 237 124 [.ref 66, .int (nI fr), .int (nI to), .int (nI st), .int u, .int 1, w] [] (hR (tH h m 0) f) = some (.inl (some (.int (pairV W fr to st u))), hR (tH h m 0) f') := by
          intro f w
          have e := fd_runE (ν := (Nat → Int32) × Value) (c := fun i => (prI W fr to st u i).isSome) (n := pN W - 1) (F := fun i v => ev O (d + 7) 237 124 [.ref 66, .int (nI fr), .int (nI to), .int (nI st), .int u, .int (nI (i + 1)), v.2] [] (hR (tH h m 0) v.1)) (E := fun i r => ∃ f', r = some (Sum.inl (some (Value.int (shl1 (i + 1) ||| shl1 ((prI W fr to st u i).getD 0)))), hR (tH h m 0) f')) (fun i v hi => by
            have h1 : ¬ nI (pN W) ≤ nI (i + 1) := nI_ge (by omega) (by omega)
            have e2 := fd_runE (ν := Nat → Int32) (c := prC W fr to st u i) (n := i + 1) (F := fun b f => ev O (d + 7) 237 136 [.ref 66, .int (nI fr), .int (nI to), .int (nI st), .int u, .int (nI (i + 1)), .int (nI b)] [] (hR (tH h m 0) f)) (E := fun b r => ∃ f', r = some (Sum.inl (some (Value.int (shl1 (i + 1) ||| shl1 b))), hR (tH h m 0) f')) (fun b f hb => by
              have h2 : ¬ nI (i + 1) ≤ nI b := nI_ge hb (by omega)
              obtain ⟨f', el⟩ := leads_ev O d (H0.hR f) R (hR_at e7 f) hfr hto hst u (show i + 1 < pN W by omega) (show b < pN W by omega)
              rw [hR_hR] at el
              rw [e_237_136]
              refine ⟨fun hc => ⟨f', ?_⟩, fun hc => ⟨f', ?_⟩⟩
              · have hc : sgB W fr to st u (shl1 (i + 1) ||| shl1 b) = true := hc
                simp only [e_237_0, e_237_1, e_237_2, e_237_5, e_237_6, e_237_7, e_237_8, e_237_11, e_237_14, e_237_15, e_237_16, e_237_19, e_237_22, e_237_23, e_237_26, e_237_29, e_237_30, e_237_33, e_237_34, e_237_35, e_237_38, e_237_41, e_237_42, e_237_44, e_237_45, e_237_48, e_237_51, e_237_54, e_237_55, e_237_58, e_237_59, e_237_60, e_237_63, e_237_66, e_237_67, e_237_68, e_237_69, e_237_70, e_237_71, e_237_72, e_237_74, e_237_77, e_237_80, e_237_81, e_237_82, e_237_83, e_237_85, e_237_87, e_237_88, e_237_91, e_237_94, e_237_95, e_237_96, e_237_97, e_237_98, e_237_100, e_237_102, e_237_104, e_237_107, e_237_110, e_237_111, e_237_113, e_237_114, e_237_115, e_237_118, e_237_121, e_237_122, e_237_124, e_237_126, e_237_127, e_237_130, e_237_133, e_237_134, e_237_138, e_237_140, e_237_143, e_237_144, e_237_145, e_237_146, e_237_147, e_237_149, e_237_151, e_237_153, e_237_156, e_237_159, e_237_160, e_237_162, e_237_163, e_237_164, e_237_166, e_237_167, e_237_168, e_237_169, e_237_172, e_237_175, e_237_178, e_237_181, e_237_182, Option.bind_some, Option.bind_none, m_kt, m_kn, Option.toList_some, Option.toList_none, List.nil_append, List.cons_append, List.append_nil, ltn, ite_not, ↓reduceIte, true_or, or_true, nP1, oI_s, oI_n, bI_f, bI_t, i1_0, i0_0, Bool.false_eq_true, not_true_eq_false, not_false_eq_true, h2, (H0.hR f).isc, el, hc, shl_nI]
              · have hc : sgB W fr to st u (shl1 (i + 1) ||| shl1 b) = false := hc
                simp only [e_237_0, e_237_1, e_237_2, e_237_5, e_237_6, e_237_7, e_237_8, e_237_11, e_237_14, e_237_15, e_237_16, e_237_19, e_237_22, e_237_23, e_237_26, e_237_29, e_237_30, e_237_33, e_237_34, e_237_35, e_237_38, e_237_41, e_237_42, e_237_44, e_237_45, e_237_48, e_237_51, e_237_54, e_237_55, e_237_58, e_237_59, e_237_60, e_237_63, e_237_66, e_237_67, e_237_68, e_237_69, e_237_70, e_237_71, e_237_72, e_237_74, e_237_77, e_237_80, e_237_81, e_237_82, e_237_83, e_237_85, e_237_87, e_237_88, e_237_91, e_237_94, e_237_95, e_237_96, e_237_97, e_237_98, e_237_100, e_237_102, e_237_104, e_237_107, e_237_110, e_237_111, e_237_113, e_237_114, e_237_115, e_237_118, e_237_121, e_237_122, e_237_124, e_237_126, e_237_127, e_237_130, e_237_133, e_237_134, e_237_138, e_237_140, e_237_143, e_237_144, e_237_145, e_237_146, e_237_147, e_237_149, e_237_151, e_237_153, e_237_156, e_237_159, e_237_160, e_237_162, e_237_163, e_237_164, e_237_166, e_237_167, e_237_168, e_237_169, e_237_172, e_237_175, e_237_178, e_237_181, e_237_182, Option.bind_some, Option.bind_none, m_kt, m_kn, Option.toList_some, Option.toList_none, List.nil_append, List.cons_append, List.append_nil, ltn, ite_not, ↓reduceIte, true_or, or_true, nP1, oI_s, oI_n, bI_f, bI_t, i1_0, i0_0, Bool.false_eq_true, not_true_eq_false, not_false_eq_true, h2, (H0.hR f).isc, el, hc, shl_nI]) v.1
            rw [e_237_124]
            simp only [e_237_0, e_237_1, e_237_2, e_237_5, e_237_6, e_237_7, e_237_8, e_237_11, e_237_14, e_237_15, e_237_16, e_237_19, e_237_22, e_237_23, e_237_26, e_237_29, e_237_30, e_237_33, e_237_34, e_237_35, e_237_38, e_237_41, e_237_42, e_237_44, e_237_45, e_237_48, e_237_51, e_237_54, e_237_55, e_237_58, e_237_59, e_237_60, e_237_63, e_237_66, e_237_67, e_237_68, e_237_69, e_237_70, e_237_71, e_237_72, e_237_74, e_237_77, e_237_80, e_237_81, e_237_82, e_237_83, e_237_85, e_237_87, e_237_88, e_237_91, e_237_94, e_237_95, e_237_96, e_237_97, e_237_98, e_237_100, e_237_102, e_237_104, e_237_107, e_237_110, e_237_111, e_237_113, e_237_114, e_237_115, e_237_118, e_237_121, e_237_122, e_237_126, e_237_127, e_237_130, e_237_133, e_237_134, e_237_138, e_237_140, e_237_143, e_237_144, e_237_145, e_237_146, e_237_147, e_237_149, e_237_151, e_237_153, e_237_156, e_237_159, e_237_160, e_237_162, e_237_163, e_237_164, e_237_166, e_237_167, e_237_168, e_237_169, e_237_172, e_237_175, e_237_178, e_237_181, e_237_182, Option.bind_some, Option.bind_none, m_kt, m_kn, Option.toList_some, Option.toList_none, List.nil_append, List.cons_append, List.append_nil, ltn, ite_not, ↓reduceIte, true_or, or_true, nP1, oI_s, oI_n, bI_f, bI_t, i1_0, i0_0, Bool.false_eq_true, not_true_eq_false, not_false_eq_true, (H0.hR v.1).isc, panes_ev O (d + 6) (H0.hR v.1).w R, h1]
            simp only [nI_0] at e2
            rcases e2 with ⟨b, eb, f', e2⟩ | ⟨en, f', e2⟩
            · have eb : prI W fr to st u i = some b := eb
              refine ⟨fun _ => ⟨f', ?_⟩, fun q => (by rw [eb] at q; cases q)⟩
              rw [eb]; exact e2
            · have en : prI W fr to st u i = none := en
              refine ⟨fun q => (by rw [en] at q; cases q), fun _ => ⟨(f', .int (nI (i + 1))), e2.trans ?_⟩⟩
              rw [e_237_136]
              simp only [e_237_0, e_237_1, e_237_2, e_237_5, e_237_6, e_237_7, e_237_8, e_237_11, e_237_14, e_237_15, e_237_16, e_237_19, e_237_22, e_237_23, e_237_26, e_237_29, e_237_30, e_237_33, e_237_34, e_237_35, e_237_38, e_237_41, e_237_42, e_237_44, e_237_45, e_237_48, e_237_51, e_237_54, e_237_55, e_237_58, e_237_59, e_237_60, e_237_63, e_237_66, e_237_67, e_237_68, e_237_69, e_237_70, e_237_71, e_237_72, e_237_74, e_237_77, e_237_80, e_237_81, e_237_82, e_237_83, e_237_85, e_237_87, e_237_88, e_237_91, e_237_94, e_237_95, e_237_96, e_237_97, e_237_98, e_237_100, e_237_102, e_237_104, e_237_107, e_237_110, e_237_111, e_237_113, e_237_114, e_237_115, e_237_118, e_237_121, e_237_122, e_237_126, e_237_127, e_237_130, e_237_133, e_237_134, e_237_138, e_237_140, e_237_143, e_237_144, e_237_145, e_237_146, e_237_147, e_237_149, e_237_151, e_237_153, e_237_156, e_237_159, e_237_160, e_237_162, e_237_163, e_237_164, e_237_166, e_237_167, e_237_168, e_237_169, e_237_172, e_237_175, e_237_178, e_237_181, e_237_182, Option.bind_some, Option.bind_none, m_kt, m_kn, Option.toList_some, Option.toList_none, List.nil_append, List.cons_append, List.append_nil, ltn, ite_not, ↓reduceIte, true_or, or_true, nP1, oI_s, oI_n, bI_f, bI_t, i1_0, i0_0, Bool.false_eq_true, not_true_eq_false, not_false_eq_true, Int32.le_refl]) (f, w)
          simp only [Nat.zero_add, show nI 1 = 1 from rfl] at e
          unfold pairV
          rcases e with ⟨i, ei, f', e⟩ | ⟨en, v, e⟩
          · rw [ei]; exact ⟨f', e⟩
          · rw [en]
            refine ⟨v.1, e.trans ?_⟩
            rw [Nat.sub_add_cancel hP, e_237_124]
            simp only [e_237_0, e_237_1, e_237_2, e_237_5, e_237_6, e_237_7, e_237_8, e_237_11, e_237_14, e_237_15, e_237_16, e_237_19, e_237_22, e_237_23, e_237_26, e_237_29, e_237_30, e_237_33, e_237_34, e_237_35, e_237_38, e_237_41, e_237_42, e_237_44, e_237_45, e_237_48, e_237_51, e_237_54, e_237_55, e_237_58, e_237_59, e_237_60, e_237_63, e_237_66, e_237_67, e_237_68, e_237_69, e_237_70, e_237_71, e_237_72, e_237_74, e_237_77, e_237_80, e_237_81, e_237_82, e_237_83, e_237_85, e_237_87, e_237_88, e_237_91, e_237_94, e_237_95, e_237_96, e_237_97, e_237_98, e_237_100, e_237_102, e_237_104, e_237_107, e_237_110, e_237_111, e_237_113, e_237_114, e_237_115, e_237_118, e_237_121, e_237_122, e_237_126, e_237_127, e_237_130, e_237_133, e_237_134, e_237_138, e_237_140, e_237_143, e_237_144, e_237_145, e_237_146, e_237_147, e_237_149, e_237_151, e_237_153, e_237_156, e_237_159, e_237_160, e_237_162, e_237_163, e_237_164, e_237_166, e_237_167, e_237_168, e_237_169, e_237_172, e_237_175, e_237_178, e_237_181, e_237_182, Option.bind_some, Option.bind_none, m_kt, m_kn, Option.toList_some, Option.toList_none, List.nil_append, List.cons_append, List.append_nil, ltn, ite_not, ↓reduceIte, true_or, or_true, nP1, oI_s, oI_n, bI_f, bI_t, i1_0, i0_0, Bool.false_eq_true, not_true_eq_false, not_false_eq_true, (H0.hR v.1).isc, panes_ev O (d + 6) (H0.hR v.1).w R, Int32.le_refl]
            rfl
        have e := fd_runE (ν := Nat → Int32) (c := fun p => sgB W fr to st u (shl1 p)) (n := pN W) (F := fun i f => ev O (d + 7) 237 85 [.ref 66, .int (nI fr), .int (nI to), .int (nI st), .int u, .int (nI i), mJ] [] (hR (tH h m 0) f)) (E := fun p r => ∃ f', r = some (.inl (some (.int (shl1 p))), hR (tH h m 0) f')) (fun i f hi => by
          have h1 : ¬ nI (pN W) ≤ nI i := nI_ge hi (by omega)
          obtain ⟨f', el⟩ := leads_ev O d (H0.hR f) R (hR_at e7 f) hfr hto hst u hi hi
          rw [hR_hR, or_self32] at el
          rw [e_237_85]
          refine ⟨fun hc => ⟨f', ?_⟩, fun hc => ⟨f', ?_⟩⟩ <;> simp only [e_237_0, e_237_1, e_237_2, e_237_5, e_237_6, e_237_7, e_237_8, e_237_11, e_237_14, e_237_15, e_237_16, e_237_19, e_237_22, e_237_23, e_237_26, e_237_29, e_237_30, e_237_33, e_237_34, e_237_35, e_237_38, e_237_41, e_237_42, e_237_44, e_237_45, e_237_48, e_237_51, e_237_54, e_237_55, e_237_58, e_237_59, e_237_60, e_237_63, e_237_66, e_237_67, e_237_68, e_237_69, e_237_70, e_237_71, e_237_72, e_237_74, e_237_77, e_237_80, e_237_81, e_237_82, e_237_83, e_237_87, e_237_88, e_237_91, e_237_94, e_237_95, e_237_96, e_237_97, e_237_98, e_237_100, e_237_102, e_237_104, e_237_107, e_237_110, e_237_111, e_237_113, e_237_114, e_237_115, e_237_118, e_237_121, e_237_122, e_237_124, e_237_126, e_237_127, e_237_130, e_237_133, e_237_134, e_237_136, e_237_138, e_237_140, e_237_143, e_237_144, e_237_145, e_237_146, e_237_147, e_237_149, e_237_151, e_237_153, e_237_156, e_237_159, e_237_160, e_237_162, e_237_163, e_237_164, e_237_166, e_237_167, e_237_168, e_237_169, e_237_172, e_237_175, e_237_178, e_237_181, e_237_182, Option.bind_some, Option.bind_none, m_kt, m_kn, Option.toList_some, Option.toList_none, List.nil_append, List.cons_append, List.append_nil, ltn, ite_not, ↓reduceIte, true_or, or_true, nP1, oI_s, oI_n, bI_f, bI_t, i1_0, i0_0, Bool.false_eq_true, not_true_eq_false, not_false_eq_true, (H0.hR f).isc, panes_ev O (d + 6) (H0.hR f).w R, h1, el, hc, shl_nI]) v1
        simp only [nI_0] at e
        rcases e with ⟨i, ei, f', e⟩ | ⟨en, f', e⟩
        · refine ⟨_, ?_, sc_hR f'⟩
          rw [ei]
          simp only [e_237_0, e_237_1, e_237_2, e_237_5, e_237_6, e_237_7, e_237_8, e_237_11, e_237_14, e_237_15, e_237_16, e_237_19, e_237_22, e_237_23, e_237_26, e_237_29, e_237_30, e_237_33, e_237_34, e_237_35, e_237_38, e_237_41, e_237_42, e_237_44, e_237_45, e_237_48, e_237_51, e_237_54, e_237_55, e_237_58, e_237_59, e_237_60, e_237_63, e_237_66, e_237_67, e_237_68, e_237_69, e_237_70, e_237_71, e_237_72, e_237_74, e_237_77, e_237_80, e_237_81, e_237_82, e_237_83, e_237_87, e_237_88, e_237_91, e_237_94, e_237_95, e_237_96, e_237_97, e_237_98, e_237_100, e_237_102, e_237_104, e_237_107, e_237_110, e_237_111, e_237_113, e_237_114, e_237_115, e_237_118, e_237_121, e_237_122, e_237_126, e_237_127, e_237_130, e_237_133, e_237_134, e_237_136, e_237_138, e_237_140, e_237_143, e_237_144, e_237_145, e_237_146, e_237_147, e_237_149, e_237_151, e_237_153, e_237_156, e_237_159, e_237_160, e_237_162, e_237_163, e_237_164, e_237_166, e_237_167, e_237_168, e_237_169, e_237_172, e_237_175, e_237_178, e_237_181, e_237_182, Option.bind_some, Option.bind_none, m_kt, m_kn, Option.toList_some, Option.toList_none, List.nil_append, List.cons_append, List.append_nil, ltn, ite_not, ↓reduceIte, true_or, or_true, nP1, oI_s, oI_n, bI_f, bI_t, i1_0, i0_0, Bool.false_eq_true, not_true_eq_false, not_false_eq_true, nI_0, m1m1, Nat.one_ne_zero, two_ne0, pMt H, H0.isc, noPane_ev O _ H0.w R, noHour_ev, noSeer_ev O _ H0.w, in_ev, Bool.not_false, Bool.not_true, bI_f, bI_t, thr0_ev O _ H0, thr1_ev O _ H0, i1_0, i0_0, z01, o01, tH_tH, Bool.false_eq_true, b1, b2, b3, c2, eh, oI_ge ho_lt, hsg, c0]
          exact e
        · obtain ⟨f2, e2⟩ := pr f' mJ
          refine ⟨_, ?_, sc_hR f2⟩
          rw [en]
          simp only [e_237_0, e_237_1, e_237_2, e_237_5, e_237_6, e_237_7, e_237_8, e_237_11, e_237_14, e_237_15, e_237_16, e_237_19, e_237_22, e_237_23, e_237_26, e_237_29, e_237_30, e_237_33, e_237_34, e_237_35, e_237_38, e_237_41, e_237_42, e_237_44, e_237_45, e_237_48, e_237_51, e_237_54, e_237_55, e_237_58, e_237_59, e_237_60, e_237_63, e_237_66, e_237_67, e_237_68, e_237_69, e_237_70, e_237_71, e_237_72, e_237_74, e_237_77, e_237_80, e_237_81, e_237_82, e_237_83, e_237_87, e_237_88, e_237_91, e_237_94, e_237_95, e_237_96, e_237_97, e_237_98, e_237_100, e_237_102, e_237_104, e_237_107, e_237_110, e_237_111, e_237_113, e_237_114, e_237_115, e_237_118, e_237_121, e_237_122, e_237_126, e_237_127, e_237_130, e_237_133, e_237_134, e_237_136, e_237_138, e_237_140, e_237_143, e_237_144, e_237_145, e_237_146, e_237_147, e_237_149, e_237_151, e_237_153, e_237_156, e_237_159, e_237_160, e_237_162, e_237_163, e_237_164, e_237_166, e_237_167, e_237_168, e_237_169, e_237_172, e_237_175, e_237_178, e_237_181, e_237_182, Option.bind_some, Option.bind_none, m_kt, m_kn, Option.toList_some, Option.toList_none, List.nil_append, List.cons_append, List.append_nil, ltn, ite_not, ↓reduceIte, true_or, or_true, nP1, oI_s, oI_n, bI_f, bI_t, i1_0, i0_0, Bool.false_eq_true, not_true_eq_false, not_false_eq_true, nI_0, m1m1, Nat.one_ne_zero, two_ne0, pMt H, H0.isc, noPane_ev O _ H0.w R, noHour_ev, noSeer_ev O _ H0.w, in_ev, Bool.not_false, Bool.not_true, bI_f, bI_t, thr0_ev O _ H0, thr1_ev O _ H0, i1_0, i0_0, z01, o01, tH_tH, Bool.false_eq_true, b1, b2, b3, c2, eh, oI_ge ho_lt, hsg, c0]
          refine e.trans ?_
          rw [e_237_85]
          simp only [e_237_0, e_237_1, e_237_2, e_237_5, e_237_6, e_237_7, e_237_8, e_237_11, e_237_14, e_237_15, e_237_16, e_237_19, e_237_22, e_237_23, e_237_26, e_237_29, e_237_30, e_237_33, e_237_34, e_237_35, e_237_38, e_237_41, e_237_42, e_237_44, e_237_45, e_237_48, e_237_51, e_237_54, e_237_55, e_237_58, e_237_59, e_237_60, e_237_63, e_237_66, e_237_67, e_237_68, e_237_69, e_237_70, e_237_71, e_237_72, e_237_74, e_237_77, e_237_80, e_237_81, e_237_82, e_237_83, e_237_87, e_237_88, e_237_91, e_237_94, e_237_95, e_237_96, e_237_97, e_237_98, e_237_100, e_237_102, e_237_104, e_237_107, e_237_110, e_237_111, e_237_113, e_237_114, e_237_115, e_237_118, e_237_121, e_237_122, e_237_126, e_237_127, e_237_130, e_237_133, e_237_134, e_237_136, e_237_138, e_237_140, e_237_143, e_237_144, e_237_145, e_237_146, e_237_147, e_237_149, e_237_151, e_237_153, e_237_156, e_237_159, e_237_160, e_237_162, e_237_163, e_237_164, e_237_166, e_237_167, e_237_168, e_237_169, e_237_172, e_237_175, e_237_178, e_237_181, e_237_182, Option.bind_some, Option.bind_none, m_kt, m_kn, Option.toList_some, Option.toList_none, List.nil_append, List.cons_append, List.append_nil, ltn, ite_not, ↓reduceIte, true_or, or_true, nP1, oI_s, oI_n, bI_f, bI_t, i1_0, i0_0, Bool.false_eq_true, not_true_eq_false, not_false_eq_true, nI_0, m1m1, Nat.one_ne_zero, two_ne0, (H0.hR f').isc, panes_ev O (d + 6) (H0.hR f').w R, Int32.le_refl]
          exact e2
      · refine ⟨_, ?_, sc_hR v1⟩
        simp only [e_237_0, e_237_1, e_237_2, e_237_5, e_237_6, e_237_7, e_237_8, e_237_11, e_237_14, e_237_15, e_237_16, e_237_19, e_237_22, e_237_23, e_237_26, e_237_29, e_237_30, e_237_33, e_237_34, e_237_35, e_237_38, e_237_41, e_237_42, e_237_44, e_237_45, e_237_48, e_237_51, e_237_54, e_237_55, e_237_58, e_237_59, e_237_60, e_237_63, e_237_66, e_237_67, e_237_68, e_237_69, e_237_70, e_237_71, e_237_72, e_237_74, e_237_77, e_237_80, e_237_81, e_237_82, e_237_83, e_237_85, e_237_87, e_237_88, e_237_91, e_237_94, e_237_95, e_237_96, e_237_97, e_237_98, e_237_100, e_237_102, e_237_104, e_237_107, e_237_110, e_237_111, e_237_113, e_237_114, e_237_115, e_237_118, e_237_121, e_237_122, e_237_124, e_237_126, e_237_127, e_237_130, e_237_133, e_237_134, e_237_136, e_237_138, e_237_140, e_237_143, e_237_144, e_237_145, e_237_146, e_237_147, e_237_149, e_237_151, e_237_153, e_237_156, e_237_159, e_237_160, e_237_162, e_237_163, e_237_164, e_237_166, e_237_167, e_237_168, e_237_169, e_237_172, e_237_175, e_237_178, e_237_181, e_237_182, Option.bind_some, Option.bind_none, m_kt, m_kn, Option.toList_some, Option.toList_none, List.nil_append, List.cons_append, List.append_nil, ltn, ite_not, ↓reduceIte, true_or, or_true, nP1, oI_s, oI_n, bI_f, bI_t, i1_0, i0_0, Bool.false_eq_true, not_true_eq_false, not_false_eq_true, nI_0, m1m1, Nat.one_ne_zero, two_ne0, pMt H, H0.isc, noPane_ev O _ H0.w R, noHour_ev, noSeer_ev O _ H0.w, in_ev, Bool.not_false, Bool.not_true, bI_f, bI_t, thr0_ev O _ H0, thr1_ev O _ H0, i1_0, i0_0, z01, o01, tH_tH, Bool.false_eq_true, b1, b2, b3, c2, eh, oI_ge ho_lt, hsg, c0]
end MStr
