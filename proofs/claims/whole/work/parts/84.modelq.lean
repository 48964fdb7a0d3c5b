/-! The reference's questions -/
section ModelQ
variable {h : mH} {W : WD}
theorem sunS_m (hr : Int32) : (if inB hr 6 18 = true then 100 - 12 * (if 0 ≤ hr - 12 then hr - 12 else 0 - (hr - 12)) else 0) = sunS hr := by
  unfold inB sunS
  by_cases h1 : 6 ≤ hr <;> by_cases h2 : hr ≤ 18 <;> simp [h1, h2]
theorem isBr_ev (O : mO) (d : Nat) (H : MW h W) {p : Nat} (hp : p < 30) : ev O (d + 1) 162 0 [.ref 66, .int (nI p)] [] h = some (.inl (some (.int (bI (brk W p)))), h) := isBroken_ev O d H hp
theorem mbears_ev (O : mO) (d : Nat) (H : MW h W) {p : Nat} (hp : p < 30) : ev O (d + 2) 192 0 [.ref 66, .int (nI p)] [] h = some (.inl (some (.int (bea W p))), h) := by
  simp only [e_192_0, e_192_1, e_192_2, e_192_5, e_192_8, e_192_9, e_192_12, e_192_13, e_192_15, e_192_16, e_192_17, e_192_18, e_192_21, e_192_22, e_192_23, e_192_24, e_192_25, e_192_28, e_192_29, e_192_31, e_192_32, e_192_33, e_192_34, e_192_37, e_192_38, e_192_39, e_192_40, e_192_41, e_192_42, e_192_43, e_192_46, e_192_49, e_192_50, e_192_53, Option.bind_some, Option.bind_none, m_kt, m_kn, Option.toList_some, Option.toList_none, List.nil_append, List.cons_append, List.append_nil, ltn, ite_not, ↓reduceIte, true_or, or_true, H.1, isBr_ev O d H hp, of0_ev O (d + 1) H hp, of1_ev O (d + 1) H hp, of3_ev O (d + 1) H hp, bI_0]
  unfold bea beaT
  cases brk W p
  · simp only [↓reduceIte, Bool.false_eq_true]
    rw [mx_c _ 0, mn_c _ 0]
    rfl
  · rfl
theorem isThen_ev (O : mO) (d : Nat) (h : mH) (hr f t : Int32) : ev O (d + 1) 194 0 [.int hr, .int f, .int t] [] h = some (.inl (some (.int (bI (thenB hr f t)))), h) := by
  simp only [e_194_0, e_194_1, e_194_2, e_194_5, e_194_6, e_194_7, e_194_8, e_194_11, e_194_14, e_194_15, e_194_16, e_194_19, e_194_20, e_194_21, e_194_24, e_194_25, e_194_28, e_194_29, Option.bind_some, Option.bind_none, m_kt, m_kn, Option.toList_some, Option.toList_none, List.nil_append, List.cons_append, List.append_nil, ltn, ite_not, ↓reduceIte, true_or, or_true, in_ev, bI_01, z01, o01]
  unfold thenB inB
  by_cases h1 : f ≤ t <;> by_cases h2 : f ≤ hr <;> by_cases h3 : hr ≤ t <;> simp [h1, h2, h3, bI]
theorem prs_m {W : WD} (R : rng W) {k : Nat} (hk : k < kN W) : W (187 + 5 * k) * (2 - W (187 + 5 * k + 4)) = prs W k := by
  have := (R.2.2.1 k hk).2.2.2.2
  unfold prs
  rcases this with q | q
  · rw [q, if_neg (by decide), Int32.mul_comm]; rfl
  · rw [q, if_pos rfl]
    exact Int32.mul_one _
theorem loadAt_ev (O : mO) (d : Nat) (H : MW h W) (R : rng W) (p hr : Int32) : ev O (d + 2) 195 0 [.ref 66, .int p, .int hr, mJ, mJ] [] h = some (.inl (some (.int (loadS W p hr))), h) := by
  have h12 := kN_le R
  have e := lp_run (F := fun i s => ev O (d + 2) 195 5 [.ref 66, .int p, .int hr, .int s, .int (nI i)] [] h) (f := fun k s => if W (187 + 5 * k + 1) = p ∧ thenB hr (W (187 + 5 * k + 2)) (W (187 + 5 * k + 3)) = true then s + prs W k else s) (n := kN W) (fun i s hi => by
    have h1 : ¬ nI (kN W) ≤ nI i := nI_ge hi (by omega)
    have hi2 : i < 12 := by omega
    rw [e_195_5]
    simp only [e_195_0, e_195_1, e_195_2, e_195_3, e_195_7, e_195_8, e_195_11, e_195_12, e_195_13, e_195_16, e_195_17, e_195_18, e_195_20, e_195_21, e_195_24, e_195_25, e_195_28, e_195_29, e_195_30, e_195_32, e_195_33, e_195_36, e_195_37, e_195_39, e_195_40, e_195_43, e_195_46, e_195_49, e_195_50, e_195_52, e_195_53, e_195_56, e_195_57, e_195_58, e_195_60, e_195_61, e_195_64, e_195_65, e_195_66, e_195_69, e_195_70, e_195_71, e_195_72, e_195_75, e_195_78, e_195_79, Option.bind_some, Option.bind_none, m_kt, m_kn, Option.toList_some, Option.toList_none, List.nil_append, List.cons_append, List.append_nil, ltn, ite_not, ↓reduceIte, true_or, or_true, H.1, H.2.1, H.w2, rW2 R, h1, oc0_ev O (d + 1) H hi2, oc1_ev O (d + 1) H hi2, oc2_ev O (d + 1) H hi2, oc3_ev O (d + 1) H hi2, oc4_ev O (d + 1) H hi2, isThen_ev, bI_0, nP1, prs_m R hi]
    by_cases h2 : W (187 + 5 * i + 1) = p
    · cases h3 : thenB hr (W (187 + 5 * i + 2)) (W (187 + 5 * i + 3)) <;> simp [h2, h3]
    · simp [h2]) 0
  simp only [e_195_0, e_195_1, e_195_2, e_195_3, e_195_7, e_195_8, e_195_11, e_195_12, e_195_13, e_195_16, e_195_17, e_195_18, e_195_20, e_195_21, e_195_24, e_195_25, e_195_28, e_195_29, e_195_30, e_195_32, e_195_33, e_195_36, e_195_37, e_195_39, e_195_40, e_195_43, e_195_46, e_195_49, e_195_50, e_195_52, e_195_53, e_195_56, e_195_57, e_195_58, e_195_60, e_195_61, e_195_64, e_195_65, e_195_66, e_195_69, e_195_70, e_195_71, e_195_72, e_195_75, e_195_78, e_195_79, Option.bind_some, Option.bind_none, m_kt, m_kn, Option.toList_some, Option.toList_none, List.nil_append, List.cons_append, List.append_nil, ltn, ite_not, ↓reduceIte, true_or, or_true]
  simp only [nI_0] at e
  rw [e, e_195_5]
  simp only [e_195_0, e_195_1, e_195_2, e_195_3, e_195_7, e_195_8, e_195_11, e_195_12, e_195_13, e_195_16, e_195_17, e_195_18, e_195_20, e_195_21, e_195_24, e_195_25, e_195_28, e_195_29, e_195_30, e_195_32, e_195_33, e_195_36, e_195_37, e_195_39, e_195_40, e_195_43, e_195_46, e_195_49, e_195_50, e_195_52, e_195_53, e_195_56, e_195_57, e_195_58, e_195_60, e_195_61, e_195_64, e_195_65, e_195_66, e_195_69, e_195_70, e_195_71, e_195_72, e_195_75, e_195_78, e_195_79, Option.bind_some, Option.bind_none, m_kt, m_kn, Option.toList_some, Option.toList_none, List.nil_append, List.cons_append, List.append_nil, ltn, ite_not, ↓reduceIte, true_or, or_true, H.2.1, H.w2, rW2 R, Int32.le_refl]
  rfl
theorem isHeld_ev (O : mO) (d : Nat) (H : MW h W) (R : rng W) {p : Nat} (hp : p < 30) (hr more : Int32) : ev O (d + 3) 196 0 [.ref 66, .int (nI p), .int hr, .int more] [] h = some (.inl (some (.int (bI (hlB W p hr more)))), h) := by
  simp only [e_196_0, e_196_1, e_196_2, e_196_5, e_196_8, e_196_9, e_196_10, e_196_11, e_196_14, e_196_15, e_196_16, e_196_17, e_196_18, e_196_21, e_196_24, e_196_25, e_196_28, e_196_29, Option.bind_some, Option.bind_none, m_kt, m_kn, Option.toList_some, Option.toList_none, List.nil_append, List.cons_append, List.append_nil, ltn, ite_not, ↓reduceIte, true_or, or_true, H.1, isBr_ev O (d + 1) H hp, loadAt_ev O d H R, mbears_ev O d H hp, bI_0, z01, o01]
  unfold hlB
  cases brk W p
  · by_cases h2 : loadS W (nI p) hr + more ≤ bea W p <;> simp [h2, bI]
  · simp [bI]
theorem mletDown_ev (O : mO) (d : Nat) (H : MW h W) {p : Nat} (hp : p < 30) (hr : Int32) : ev O (d + 2) 206 0 [.ref 66, .int (nI p), .int hr] [] h = some (.inl (some (.int (ldS W p hr))), h) := by
  simp only [e_206_0, e_206_1, e_206_2, e_206_5, e_206_7, e_206_8, e_206_9, e_206_10, e_206_13, e_206_14, e_206_15, e_206_17, e_206_18, e_206_20, e_206_21, e_206_22, e_206_23, e_206_26, e_206_27, e_206_28, e_206_30, e_206_31, e_206_32, e_206_33, e_206_34, e_206_35, e_206_38, e_206_39, e_206_40, e_206_43, Option.bind_some, Option.bind_none, m_kt, m_kn, Option.toList_some, Option.toList_none, List.nil_append, List.cons_append, List.append_nil, ltn, ite_not, ↓reduceIte, true_or, or_true, H.1, msun_ev, sunS_m, of0_ev O (d + 1) H hp, of2_ev O (d + 1) H hp, of3_ev O (d + 1) H hp, z100, z12]
  unfold ldS
  rw [mx_c _ 0]
  rfl
theorem lightAt_ev (O : mO) (d : Nat) (H : MW h W) {p : Nat} (hp : p < 30) (hr : Int32) : ev O (d + 3) 207 0 [.ref 66, .int (nI p), .int hr] [] h = some (.inl (some (.int (lgS W p hr))), h) := by
  simp only [e_207_0, e_207_1, e_207_2, e_207_3, e_207_6, e_207_7, e_207_8, e_207_9, e_207_12, e_207_13, Option.bind_some, Option.bind_none, m_kt, m_kn, Option.toList_some, Option.toList_none, List.nil_append, List.cons_append, List.append_nil, ltn, ite_not, ↓reduceIte, true_or, or_true, H.1, mletDown_ev O d H hp, of5_ev O (d + 2) H hp]
  rfl
theorem noPane_ev (O : mO) (d : Nat) (H : MW h W) (R : rng W) (p : Int32) : ev O (d + 1) 160 0 [.ref 66, .int p] [] h = some (.inl (some (.int (bI (!inB p 0 (nI (pN W) - 1))))), h) := by
  simp only [e_160_0, e_160_1, e_160_2, e_160_3, e_160_6, e_160_7, e_160_8, e_160_11, e_160_14, e_160_15, e_160_18, e_160_19, Option.bind_some, Option.bind_none, m_kt, m_kn, Option.toList_some, Option.toList_none, List.nil_append, List.cons_append, List.append_nil, ltn, ite_not, ↓reduceIte, true_or, or_true, H.1, panes_ev O d H R, in_ev, bI_0, z01, o01]
  cases inB p 0 (nI (pN W) - 1) <;> rfl
theorem noHour_ev (O : mO) (d : Nat) (h : mH) (p : Int32) : ev O (d + 1) 161 0 [.int p] [] h = some (.inl (some (.int (bI (!inB p 0 23)))), h) := by
  simp only [e_161_0, e_161_1, e_161_2, e_161_4, e_161_7, e_161_10, e_161_11, e_161_14, e_161_15, Option.bind_some, Option.bind_none, m_kt, m_kn, Option.toList_some, Option.toList_none, List.nil_append, List.cons_append, List.append_nil, ltn, ite_not, ↓reduceIte, true_or, or_true, in_ev, bI_0, z01, o01]
  cases inB p 0 23 <;> rfl
theorem noSeer_ev (O : mO) (d : Nat) (H : MW h W) (p : Int32) : ev O (d + 1) 217 0 [.ref 66, .int p] [] h = some (.inl (some (.int (bI (!inB p 0 (W 5 - 1))))), h) := by
  simp only [e_217_0, e_217_1, e_217_2, e_217_3, e_217_6, e_217_7, e_217_8, e_217_9, e_217_10, e_217_13, e_217_16, e_217_17, e_217_20, e_217_21, Option.bind_some, Option.bind_none, m_kt, m_kn, Option.toList_some, Option.toList_none, List.nil_append, List.cons_append, List.append_nil, ltn, ite_not, ↓reduceIte, true_or, or_true, H.2.1, H.w5, in_ev, bI_0, z01, o01]
  cases inB p 0 (W 5 - 1) <;> rfl
end ModelQ
