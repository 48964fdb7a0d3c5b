/-! Acts: class and reference do alike -/
section Acts7
variable {h : mH} {g : gT} {m : Nat → Int32} {W W' I : WD} {l r ll : Nat} {B A1 B1 C1 U : Nat → Int32} {rG rL : Option mR} {rM : mH → Option mR} {v : Int32}
/-- what the class did, put together -/
theorem act_G (P : IP h g m W I l r ll B A1 B1 C1 U) {h1 h1' : mH} {A : Nat → Prop} (o : out A h h1) (hA : ∀ b, A b → CB g.1 b ∨ PS b ∨ SCR b) (H : CA h1 g.1 W') (S : SH h1) {r' ll' : Nat} {A1' B1' C1' : Nat → Int32} (Pc : PC h1 r' ll' A1' B1' C1') (R : rng W') (e4 : W' 4 = W 4) (e : ∀ i, 427 ≤ i → i < 1264 → W' i = W i) (c : h1' = h1 ∨ ∃ f, h1' = (h1.1.set 83 (aL 1 f), h1.2)) : IG h1' g W' I l r' ll' B A1' B1' C1' ∧ IM h1' m W I l r B U g.2.2.2.2.1 g.2.2.2.2.2 ∧ SH h1' ∧ h1'.1.length = 84 ∧ h1'.2 = h.2 := by
  have k := gok_lt P.1.1.2
  have G1 : IG h1 g W' I l r' ll' B A1' B1' C1' := IG_w P.1 o (fun b hb => by
    rcases hA b hb with z | z | z
    · exact .inl z
    · exact .inr (.inl z)
    · exact .inr (.inr (scr_g z))) H R e4 e Pc
  have M1 : IM h1 m W I l r B U g.2.2.2.2.1 g.2.2.2.2.2 := IM_out P.2.1 o (fun b hb => by
    rcases hA b hb with z | z | z
    · unfold CB at z; unfold mow; omega
    · unfold PS at z; unfold mow; omega
    · exact scr_m z)
  rcases c with rfl | ⟨f, rfl⟩
  · exact ⟨G1, M1, S, o.2.1.trans P.2.2.2.2, o.1⟩
  · have o3 : out (fun b => b = 83) h1 (h1.1.set 83 (aL 1 f), h1.2) := out.st h1 _ rfl
    refine ⟨IG_out G1 o3 (fun b hb => by unfold gow; omega), IM_out M1 o3 (fun b hb => by unfold mow; omega), ⟨fun b n q => ?_, ?_, ?_, ?_, ?_, ?_, ?_⟩, o3.2.1.trans (o.2.1.trans P.2.2.2.2), o.1⟩
    · obtain ⟨f, e⟩ := S.1 b n q
      exact ⟨f, (hne (tab_ne q).2.2.2.2.2.2.symm).trans e⟩
    · exact S.2.1.elim fun s e => ⟨s, (hne (by decide)).trans e⟩
    · exact S.2.2.1.elim fun x e => e.elim fun y e => e.elim fun z e => ⟨x, y, z, (hne (by decide)).trans e⟩
    · exact S.2.2.2.1.elim fun s e => ⟨s, (hne (by decide)).trans e⟩
    · exact S.2.2.2.2.1.elim fun s e => ⟨s, (hne (by decide)).trans e⟩
    · exact S.2.2.2.2.2.1.elim fun s e => ⟨s, (hne (by decide)).trans e⟩
    · exact S.2.2.2.2.2.2.elim fun s e => ⟨f, hget e⟩
/-- then what the reference did -/
theorem act_M {h1 h2 : mH} {r' ll' : Nat} {A1' B1' C1' U' m2 : Nat → Int32} {l' : Nat} {B' : Nat → Int32} {I' : WD} {fw hi : Int32} (G : IG h1 g W' I' l' r' ll' B' A1' B1' C1') (S : SH h1) (len : h1.1.length = 84) {A : Nat → Prop} (o : out A h1 h2) (hA : ∀ b, A b → mow b) (M : IM h2 m2 W' I' l' r' B' U' fw hi) (q : fw = g.2.2.2.2.1 ∧ hi = g.2.2.2.2.2) (pr : PR W' r' ll' A1' B1' C1' U') : IP h2 g m2 W' I' l' r' ll' B' A1' B1' C1' U' := by
  obtain ⟨rfl, rfl⟩ := q
  refine ⟨IG_out G o (fun b hb => by have := hA b hb; unfold mow at this; unfold gow; omega), M, pr, SH_out o (fun b hb => by have := hA b hb; unfold mow at this; unfold scb; rw [decide_eq_false_iff_not]; omega) S (fun z => by have := hA 83 z; unfold mow at this; omega), o.2.1.trans len⟩
theorem MB_M {h1 : mH} {fw hi : Int32} (M : IM h1 m W I l r B U fw hi) (q : MB (rM h1) h1 m 0 W' (.int v)) : ∃ h2, rM h1 = some (.inl (some (.int (v))), h2) ∧ IM h2 (upd m 0 0) W' I l r B U fw hi ∧ out mow h1 h2 ∧ h2.1[83]? = h1.1[83]? := by
  obtain ⟨m1, m2, m3, ⟨F, m4⟩, m5, m6⟩ := M
  have q : rM h1 = some (.inl (some (.int (v))), hT (tH h1 m 0) W') := q
  exact ⟨_, q, ⟨hT_MS (m1.t 0) W', m2, ((hne (by decide)).trans (hne (by decide))).trans m3, ⟨F, ((hne (by decide)).trans (hne (by decide))).trans m4⟩, ((hne (by decide)).trans (hne (by decide))).trans m5, ((hne (by decide)).trans (hne (by decide))).trans m6⟩, (out.st h1 _ (by unfold mow; omega)).tr1 (out.st _ _ (by unfold mow; omega)), (hne (by decide)).trans (hne (by decide))⟩
theorem MP_M {h1 : mH} {fw hi : Int32} (M : IM h1 m W I l r B U fw hi) (q : MP (rM h1) h1 m 0 W W' r U (.int v)) : ∃ h2 U', rM h1 = some (.inl (some (.int (v))), h2) ∧ IM h2 (upd (upd m 0 0) 6 (nI (min (r + 1) 12))) W' I l (min (r + 1) 12) B U' fw hi ∧ rmU W r U U' ∧ out mow h1 h2 ∧ h2.1[83]? = h1.1[83]? := by
  obtain ⟨m1, ⟨m21, m22, m23, m24⟩, m3, ⟨F, m4⟩, m5, m6⟩ := M
  obtain ⟨U', q, ru⟩ := q
  have M0 := m1.t 0
  have t70 : (tH h1 m 0).1[70]? = some (aI 2160 U) := (hne (by decide)).trans m5
  have Mu := hU_MS M0 (upd (upd m 0 0) 6 (nI (min (r + 1) 12))) U'
  have far : ∀ b, b ≠ 66 → b ≠ 67 → b ≠ 70 → (hT (hU (tH h1 m 0) (upd (upd m 0 0) 6 (nI (min (r + 1) 12))) U') W').1[b]? = h1.1[b]? := fun b h6 h7 h0 => (((hne (Ne.symm h7)).trans (hne (Ne.symm h0))).trans (hne (Ne.symm h6))).trans (hne (Ne.symm h6))
  refine ⟨_, U', q, ⟨hT_MS Mu W', ⟨m21, pk_us, m23, m24⟩, (far 68 (by decide) (by decide) (by decide)).trans m3, ⟨F, (far 69 (by decide) (by decide) (by decide)).trans m4⟩, (hne (by decide)).trans (hU_at t70 _ _), (far 71 (by decide) (by decide) (by decide)).trans m6⟩, ru, ⟨rfl, by unfold hT hU tH; simp, fun b hb => far b (fun z => hb (by unfold mow; omega)) (fun z => hb (by unfold mow; omega)) (fun z => hb (by unfold mow; omega))⟩, far 83 (by decide) (by decide) (by decide)⟩
theorem XB_ok (P : IP h g m W I l r ll B A1 B1 C1 U) (gq : GB rG h g.1 W' none (.int v)) (R : rng W') (e4 : W' 4 = W 4) (e : ∀ i, 427 ≤ i → i < 1264 → W' i = W i) (ep : ∀ p, p < 30 → W' (7 + 6 * p) = W (7 + 6 * p) ∧ W' (7 + 6 * p + 4) = W (7 + 6 * p + 4) ∧ W' (7 + 6 * p + 5) = W (7 + 6 * p + 5)) (Lv : ∀ h1 f, rG = some (.inl (some (.int (v))), h1) → h1.1[83]? = some (aL 1 f) → rL = some (.inl (some (.int (0))), (h1.1.set 83 (aL 1 (vp_updL f 0 v.toInt64)), h1.2))) (hM : ∀ h1, MS h1 m W → MB (rM h1) h1 m 0 W' (.int v)) : XP rL rM h := by
  obtain ⟨h1, eg, o, H⟩ := gq
  have k := gok_lt P.1.1.2
  have S1 : SH h1 := SH_out o (fun b hb => CB_scb k.1 hb) P.2.2.2.1 (by unfold CB; omega)
  have Pc : PC h1 r ll A1 B1 C1 := PC_o P.1.2.2.2.2.1 o (fun b hb z => by unfold CB at hb; unfold PS at z; omega)
  obtain ⟨f, e83⟩ := S1.2.2.2.2.2.2
  have e1 := Lv h1 f eg e83
  obtain ⟨a1, a2, a3, a4, a5⟩ := act_G P o (fun b hb => .inl hb) H S1 Pc R e4 e (.inr ⟨_, rfl⟩) (h1' := (h1.1.set 83 (aL 1 (vp_updL f 0 v.toInt64)), h1.2))
  obtain ⟨h2, b1, b2, b3, b4⟩ := MB_M a2 (hM _ a2.1)
  have P2 := act_M a1 a3 a4 b3 (fun b hb => hb) b2 ⟨rfl, rfl⟩ (PR_W P.2.2.1 ep)
  refine ⟨0, _, v, h2, .inl rfl, e1, a2.1.isc, b1, ⟨_, _, b2.1, pk_us⟩, fun _ => ⟨_, b4.trans (hget e83), if_pos rfl⟩, ⟨_, _, _, _, _, _, _, _, _, _, _, _, P2⟩, ?_⟩
  rw [b3.1, a5]; exact Nat.le_succ _
theorem GP_ok (P : IP h g m W I l r ll B A1 B1 C1 U) (gq : GP rG h g.1 W W' r ll A1 B1 C1 none (.int v)) (R : rng W') (e4 : W' 4 = W 4) (e : ∀ i, 427 ≤ i → i < 1264 → W' i = W i) (ep : ∀ p, p < 30 → W' (7 + 6 * p) = W (7 + 6 * p) ∧ W' (7 + 6 * p + 4) = W (7 + 6 * p + 4) ∧ W' (7 + 6 * p + 5) = W (7 + 6 * p + 5)) (hM : ∀ h1, MS h1 m W → h1.1[70]? = some (aI 2160 U) → MP (rM h1) h1 m 0 W W' r U (.int v)) : ∃ h1, rG = some (.inl (some (.int (v))), h1) ∧ (∃ f, h1.1[83]? = some (aL 1 f)) ∧ ∀ h1', (h1' = h1 ∨ ∃ f, h1' = (h1.1.set 83 (aL 1 f), h1.2)) → m_isc h1' 66 8 = true ∧ ∃ h2, rM h1' = some (.inl (some (.int (v))), h2) ∧ INV h2 ∧ (∃ m2 W2, MS h2 m2 W2 ∧ m2 0 = 0) ∧ h2.1[83]? = h1'.1[83]? ∧ h2.2 = h.2 := by
  obtain ⟨h1, A', B', C', eg, o, H, S1, Pc, s1, s2, s3⟩ := gq
  refine ⟨h1, eg, S1.2.2.2.2.2.2, fun h1' c => ?_⟩
  obtain ⟨a1, a2, a3, a4, a5⟩ := act_G P o (fun b hb => hb) H S1 Pc R e4 e c
  obtain ⟨h2, U', b1, b2, b5, b3, b4⟩ := MP_M a2 (hM _ a2.1 a2.2.2.2.2.1)
  have P2 := act_M a1 a3 a4 b3 (fun b hb => hb) b2 ⟨rfl, rfl⟩ (PR_W (PR_s P.1.2.1.2.1 P.2.2.1 s1 s2 s3 b5) ep)
  exact ⟨a2.1.isc, h2, b1, ⟨_, _, _, _, _, _, _, _, _, _, _, _, P2⟩, ⟨_, _, b2.1, (pk_un (by omega)).trans pk_us⟩, b4, by rw [b3.1, a5]⟩
theorem XP_ok (P : IP h g m W I l r ll B A1 B1 C1 U) (gq : GP rG h g.1 W W' r ll A1 B1 C1 none (.int v)) (R : rng W') (e4 : W' 4 = W 4) (e : ∀ i, 427 ≤ i → i < 1264 → W' i = W i) (ep : ∀ p, p < 30 → W' (7 + 6 * p) = W (7 + 6 * p) ∧ W' (7 + 6 * p + 4) = W (7 + 6 * p + 4) ∧ W' (7 + 6 * p + 5) = W (7 + 6 * p + 5)) (Lv : ∀ h1 f, rG = some (.inl (some (.int (v))), h1) → h1.1[83]? = some (aL 1 f) → rL = some (.inl (some (.int (0))), (h1.1.set 83 (aL 1 (vp_updL f 0 v.toInt64)), h1.2))) (hM : ∀ h1, MS h1 m W → h1.1[70]? = some (aI 2160 U) → MP (rM h1) h1 m 0 W W' r U (.int v)) : XP rL rM h := by
  obtain ⟨h1, eg, ⟨f, e83⟩, q⟩ := GP_ok P gq R e4 e ep hM
  obtain ⟨b0, h2, b1, b2, ⟨m2, W2, b3, b4⟩, b5, b6⟩ := q _ (.inr ⟨vp_updL f 0 v.toInt64, rfl⟩)
  exact ⟨0, _, v, h2, .inl rfl, Lv h1 f eg e83, b0, b1, ⟨m2, W2, b3, b4⟩, fun _ => ⟨_, b5.trans (hget e83), if_pos rfl⟩, b2, by omega⟩
theorem IP_r (P : IP h g m W I l r ll B A1 B1 C1 U) : r ≤ 12 ∧ ll < 12 := ⟨P.2.2.1.1, P.2.2.1.2.1⟩
end Acts7
section ActsX
variable {h : mH} {g : gT} {m : Nat → Int32} {W I : WD} {l r ll : Nat} {B A1 B1 C1 U : Nat → Int32}
theorem X_runs (O : mO) (d : Nat) (P : IP h g m W I l r ll B A1 B1 C1 U) (x1 : Int32) : XP (ev O (d + 39) 269 0 [.ref 0, .int x1, .ref 83, mJ] [] h) (fun h1 => ev O (d + 39) 202 0 [.ref 66, .int x1, mJ] [] h1) h := by
  have gq := Gruns_ev O (d + 37) (IP_CG P) x1
  have mq := fun h1 (M1 : MS h1 m W) => Mruns_ev O (d + 38) M1 x1
  unfold codeIn at gq mq
  cases c : inB x1 0 100
  · rw [c] at gq mq
    exact XQ_ex (t := 1) (e := 0) (w := .int 0) (by omega) P gq (fun h1 q => Lruns_e0 O (d + 38) x1 (IP_K0 P) q) (fun h1 P1 => MA_M (t := 1) P1 ⟨_, mq h1 P1.2.1.1, sc.rf _⟩)
  · rw [c] at gq mq
    have b := inB_bd c
    exact XB_ok P gq (rng_num P.1.2.1.2.1 (.inr (.inr ⟨rfl, b⟩))) (pk_un (by omega)) (fun i h1 h2 => pk_un (by omega)) (fun p hp => ⟨pk_un (by omega), pk_un (by omega), pk_un (by omega)⟩) (fun h1 f q e => Lruns_v O (d + 38) x1 (IP_K0 P) q e) mq
theorem X_seer (O : mO) (d : Nat) (P : IP h g m W I l r ll B A1 B1 C1 U) : XP (ev O (d + 39) 277 0 [.ref 0, .ref 83, mJ] [] h) (fun h1 => ev O (d + 39) 216 0 [.ref 66] [] h1) h := by
  have gq := Gseer_ev O (d + 38) (IP_CG P)
  have R := P.1.2.1.2.1
  have mq := fun h1 (M1 : MS h1 m W) => Mseer_ev O (d + 38) M1 R
  by_cases c : sN W = 6
  · rw [if_pos c] at gq
    simp only [if_pos c] at mq
    exact XQ_ex (t := 1) (e := 3) (w := .int 0) (by omega) P gq (fun h1 q => Lseer_e3 O (d + 38) (IP_K0 P) q) (fun h1 P1 => MA_M (t := 1) P1 ⟨_, mq h1 P1.2.1.1, sc.rf _⟩)
  · rw [if_neg c] at gq
    simp only [if_neg c] at mq
    have s6 := sN_le R
    have b : bd 0 6 (nI (sN W + 1)) := by
      unfold bd
      rw [nI_toInt (by omega)]
      omega
    exact XB_ok P gq (rng_num R (.inr (.inl ⟨rfl, b⟩))) (pk_un (by omega)) (fun i h1 h2 => pk_un (by omega)) (fun p hp => ⟨pk_un (by omega), pk_un (by omega), pk_un (by omega)⟩) (fun h1 f q e => Lseer_v O (d + 38) (IP_K0 P) q e) mq
theorem X_offer (O : mO) (d : Nat) (P : IP h g m W I l r ll B A1 B1 C1 U) (x1 x2 x3 : Int32) : XP (ev O (d + 39) 278 0 [.ref 0, .int x1, .int x2, .int x3, .ref 83, mJ] [] h) (fun h1 => ev O (d + 39) 218 0 [.ref 66, .int x1, .int x2, .int x3, mJ, mJ] [] h1) h := by
  have R := P.1.2.1.2.1
  have hN := pN_le R
  have hS := sN_le R
  have gq := Goffer_ev O (d + 37) (IP_CG P) x1 x2 x3
  have mq := fun h1 (M1 : MS h1 m W) => Moffer_ev O (d + 37) M1 R x1 x2 x3
  unfold codeOf at gq mq
  cases c : (inB x1 0 (nI (sN W) - 1) && nPa W x2)
  · rw [c] at gq mq
    exact XQ_ex (t := 1) (e := 1) (w := .int 0) (by omega) P gq (fun h1 q => Loffer_e1 O (d + 38) x1 x2 x3 (IP_K0 P) q) (fun h1 P1 => MA_M (t := 1) P1 ⟨_, mq h1 P1.2.1.1, sc.rf _⟩)
  · rw [c] at gq mq
    rw [Bool.and_eq_true] at c
    cases c2 : inB x3 0 99
    · rw [c2] at gq mq
      exact XQ_ex (t := 2) (e := 0) (w := .int 0) (by omega) P gq (fun h1 q => Loffer_e0 O (d + 38) x1 x2 x3 (IP_K0 P) q) (fun h1 P1 => MA_M (t := 2) P1 ⟨_, mq h1 P1.2.1.1, sc.rf _⟩)
    · rw [c2] at gq mq
      have lt : offP x1 x2 < 180 := by
        obtain ⟨i, hi, e1⟩ := inB_ix (by omega) c.1
        obtain ⟨j, hj, e2⟩ := inB_ix (by omega) c.2
        unfold offP
        rw [e1, e2, nI_clamp (by omega), nI_clamp (by omega)]
        omega
      exact XB_ok P gq (rng_off R lt (inB_bd c2)) (pk_un (by omega)) (fun i h1 h2 => pk_un (by omega)) (fun p hp => ⟨pk_un (by omega), pk_un (by omega), pk_un (by omega)⟩) (fun h1 f q e => Loffer_v O (d + 38) x1 x2 x3 (IP_K0 P) q e) mq
theorem X_strew (O : mO) (d : Nat) (P : IP h g m W I l r ll B A1 B1 C1 U) (x1 x2 : Int32) : XP (ev O (d + 39) 268 0 [.ref 0, .int x1, .int x2, .ref 83, mJ] [] h) (fun h1 => ev O (d + 39) 201 0 [.ref 66, .int x1, .int x2, mJ] [] h1) h := by
  have R := P.1.2.1.2.1
  have hN := pN_le R
  obtain ⟨hr, hll⟩ := IP_r P
  have gq := Gstrew_ev O (d + 37) (IP_CG P) P.1.2.2.2.2.1 hr hll x1 x2
  have mq := fun h1 (M1 : MS h1 m W) (e : h1.1[70]? = some (aI 2160 U)) => Mstrew_ev O (d + 37) M1 R hr P.2.1.2.1.2.1 e x1 x2
  unfold codeSt at gq mq
  cases c : nPa W x1
  · rw [c] at gq mq
    exact XQ_ex (t := 1) (e := 1) (w := .int 0) (by omega) P gq (fun h1 q => Lstrew_e1 O (d + 38) x1 x2 (IP_K0 P) q) (fun h1 P1 => MA_M (t := 1) P1 ⟨_, mq h1 P1.2.1.1 P1.2.1.2.2.2.2.1, sc.rf _⟩)
  · rw [c] at gq mq
    cases c2 : inB x2 0 100
    · rw [c2] at gq mq
      exact XQ_ex (t := 2) (e := 0) (w := .int 0) (by omega) P gq (fun h1 q => Lstrew_e0 O (d + 38) x1 x2 (IP_K0 P) q) (fun h1 P1 => MA_M (t := 2) P1 ⟨_, mq h1 P1.2.1.1 P1.2.1.2.2.2.2.1, sc.rf _⟩)
    · rw [c2] at gq mq
      obtain ⟨i, hi, e1⟩ := inB_ix (by omega) c
      have ei : x1.toNatClampNeg = i := by rw [e1, nI_clamp (by omega)]
      have b := inB_bd c2
      rw [ei] at gq mq
      exact XP_ok P gq (rng_pk R (by omega) (by omega) ⟨fun z => by omega, fun z => by omega, fun _ => b, fun z => by omega, fun z => by omega, fun z => by omega⟩) (pk_un (by omega)) (fun i h1 h2 => pk_un (by omega)) (fun p hp => ⟨pk_un (by omega), pk_un (by omega), pk_un (by omega)⟩) (fun h1 f q e => Lstrew_v O (d + 38) x1 x2 (IP_K0 P) q e) mq
theorem X_blow (O : mO) (d : Nat) (P : IP h g m W I l r ll B A1 B1 C1 U) (x1 x2 : Int32) : XP (ev O (d + 39) 284 0 [.ref 0, .int x1, .int x2, .ref 83, mJ] [] h) (fun h1 => ev O (d + 39) 228 0 [.ref 66, .int x1, .int x2, mJ] [] h1) h := by
  have R := P.1.2.1.2.1
  have hN := pN_le R
  obtain ⟨hr, hll⟩ := IP_r P
  have gq := Gblow_ev O (d + 35) (IP_CG P) P.1.2.2.2.2.1 hr hll x1 x2
  have mq := fun h1 (M1 : MS h1 m W) (e : h1.1[70]? = some (aI 2160 U)) => Mblow_ev O (d + 35) M1 R hr P.2.1.2.1.2.1 e x1 x2
  unfold codeWo at gq mq
  cases c : nPa W x1
  · rw [c] at gq mq
    exact XQ_ex (t := 1) (e := 1) (w := .int 0) (by omega) P gq (fun h1 q => Lblow_e1 O (d + 38) x1 x2 (IP_K0 P) q) (fun h1 P1 => MA_M (t := 1) P1 ⟨_, mq h1 P1.2.1.1 P1.2.1.2.2.2.2.1, sc.rf _⟩)
  · rw [c] at gq mq
    cases c2 : inB x2 1 999
    · rw [c2] at gq mq
      exact XQ_ex (t := 2) (e := 0) (w := .int 0) (by omega) P gq (fun h1 q => Lblow_e0 O (d + 38) x1 x2 (IP_K0 P) q) (fun h1 P1 => MA_M (t := 2) P1 ⟨_, mq h1 P1.2.1.1 P1.2.1.2.2.2.2.1, sc.rf _⟩)
    · rw [c2] at gq mq
      obtain ⟨i, hi, e1⟩ := inB_ix (by omega) c
      have ei : x1.toNatClampNeg = i := by rw [e1, nI_clamp (by omega)]
      refine XP_ok P gq (cr_rng R (fun p hp hb => ?_)) (cr_o W _ (fun p hp => by omega)) (fun i h1 h2 => cr_o W _ (fun p hp => by omega)) (fun p hp => ⟨cr_o W _ (fun q hq => by omega), cr_o W _ (fun q hq => by omega), cr_o W _ (fun q hq => by omega)⟩) (fun h1 f q e => Lblow_v O (d + 38) x1 x2 (IP_K0 P) q e) mq
      unfold woulV at hb
      rw [ei] at hb
      exact st_c2 R hi hp hb
theorem fro_rng (R : rng W) {x : Int32} {n : Nat} (hn : 1 ≤ n) (hn6 : n ≤ 60) : ∀ k, k ≤ 30 → rng (lp (fzF (nI n)) k (W, x, 0)).1
  | 0, _ => R
  | k + 1, hk => by
    rw [lp_s]
    exact fz_rng (fro_rng R hn hn6 k (by omega)) hn hn6 (by omega)
theorem X_frost (O : mO) (d : Nat) (P : IP h g m W I l r ll B A1 B1 C1 U) (x1 x2 : Int32) : XP (ev O (d + 39) 289 0 [.ref 0, .int x1, .int x2, .ref 83, mJ] [] h) (fun h1 => ev O (d + 39) 239 0 [.ref 66, .int x1, .int x2, mJ, mJ, mJ] [] h1) h := by
  have R := P.1.2.1.2.1
  have hN := pN_le R
  obtain ⟨hr, hll⟩ := IP_r P
  have gq := Gfrost_ev O (d + 36) (IP_CG P) P.1.2.2.2.2.1 hr hll x1 x2
  have mq := fun h1 (M1 : MS h1 m W) (e : h1.1[70]? = some (aI 2160 U)) => Mfrost_ev O (d + 37) M1 R hr P.2.1.2.1.2.1 e x1 x2
  unfold codeIn at gq mq
  cases c : inB x2 1 60
  · rw [c] at gq mq
    exact XQ_ex (t := 1) (e := 0) (w := .int 0) (by omega) P gq (fun h1 q => Lfrost_e0 O (d + 38) x1 x2 (IP_K0 P) q) (fun h1 P1 => MA_M (t := 1) P1 ⟨_, mq h1 P1.2.1.1 P1.2.1.2.2.2.2.1, sc.rf _⟩)
  · rw [c] at gq mq
    have b := inB_bd c
    obtain ⟨e1, e2⟩ := bd_nI b (by decide)
    have t1 : (1 : Int32).toInt = 1 := by decide
    have t6 : (60 : Int32).toInt = 60 := by decide
    have b1 := b.1
    have b2 := b.2
    refine XP_ok P gq ?_ (fzL_o _ _ (fun p hp => by omega)) (fun i h1 h2 => fzL_o _ _ (fun p hp => by omega)) (fun p hp => ⟨fzL_o _ _ (fun q hq => by omega), fzL_o _ _ (fun q hq => by omega), fzL_o _ _ (fun q hq => by omega)⟩) (fun h1 f q e => Lfrost_v O (d + 38) x1 x2 (IP_K0 P) q e) mq
    unfold froW
    rw [e1]
    exact fro_rng R (by omega) (by omega) _ hN
theorem X_mend (O : mO) (d : Nat) (P : IP h g m W I l r ll B A1 B1 C1 U) : PPq (ev O (d + 39) 135 0 [.ref 0, mJ, mJ, mJ] [] h) (fun h1 => ev O (d + 39) 249 0 [.ref 66] [] h1) h := by
  have R := P.1.2.1.2.1
  have hN := pN_le R
  obtain ⟨hr, hll⟩ := IP_r P
  have gq := Gmend_ev O (d + 36) (IP_CG P) P.1.2.2.2.2.1 hr hll
  have mq := fun h1 (M1 : MS h1 m W) (e : h1.1[70]? = some (aI 2160 U)) => Mmend_ev O (d + 33) M1 R hr P.2.1.2.1.2.1 e
  obtain ⟨h1, eg, -, q⟩ := GP_ok (rM := fun h1 => ev O (d + 39) 249 0 [.ref 66] [] h1) P gq (md_rng R hN) (md_w (by omega) hN) (fun i h1 h2 => md_w (by omega) hN) (fun p hp => ⟨md_k (k := 0) (by omega) (by omega), md_k (by omega) (by omega), md_k (by omega) (by omega)⟩) mq
  obtain ⟨b0, h2, b1, b2, -, -, b6⟩ := q h1 (.inl rfl)
  exact ⟨_, h1, h2, eg, b0, b1, b2, by omega⟩
end ActsX
