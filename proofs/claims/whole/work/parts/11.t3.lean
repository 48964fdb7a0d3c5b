/-! The frame's law, by induction on the small machine's steps -/
theorem s_stk {st : List Value} {n : Nat} {v0 : Value} (h : st[n]? = some v0) : ∃ As : List Value, (st.take (n + 1)).reverse = v0 :: As ∧ As.length = n ∧ st = As.reverse ++ v0 :: st.drop (n + 1) := by
  have hl : n < st.length := (List.getElem?_eq_some_iff.mp h).1
  have e1 : st.take (n + 1) = st.take n ++ [v0] := by
    rw [List.take_succ, h]
    rfl
  refine ⟨(st.take n).reverse, by rw [e1]; simp, by simp; omega, ?_⟩
  rw [List.reverse_reverse]
  have := (List.take_append_drop (n + 1) st).symm
  rw [e1] at this
  simpa using this
theorem s_toL {base : Nat} {oa : Nat → Nat} (v : Option Value) (r : List Value) : (v.map (s_tv base oa)).toList ++ r.map (s_tv base oa) = (v.toList ++ r).map (s_tv base oa) := by
  cases v <;> simp
section S7
variable {Ts : List Cond} {cl : List vw_C} {tb : sT} {M : sM} {P : Nat → Nat → Option mI} {O : mO} {l : Launch} {base : Nat} {oa : Nat → Nat} {cA : Nat → ClassId} {D : va_G}
variable {p : Program} {e : Env} {R : Room} {s : State} {m : MethodId} {args : Array Value} {below : List Frame} {meth : Method} {c : Code} {H : Heap} {locs : List Loc} {cells slots mc ms pc : Nat} {Q : State → Prop} {lsM : Array Slot} {st0 rest' : List Value} {a : Array Value}
theorem s_goOn {v : Option Value} {hF : mH} (hr : va_Run p l e R s m args below meth c H locs cells slots mc ms (F0 m pc lsM st0) rest' (s_Qr base oa cA D cl v hF a) (s_A base)) (hS : va_S (s_A base) s.heap H locs)
    (kk : ∀ (H1 : Heap) (locs1 : List Loc), va_P D cl (s_rl base oa cA hF.1) H1 → va_S (s_A base) s.heap H1 locs1 → W p l e R s m args below meth c H1 locs1 (cells + mc) (slots + ms) Q (F0 m (pc + 3) lsM ((v.map (s_tv base oa)).toList ++ rest'))) : W p l e R s m args below meth c H locs cells slots Q (F0 m pc lsM st0) := by
  intro T hT X
  obtain ⟨v', st₀, t, T', L, h0, X', hL, e1, e2, ⟨hv, hPp, hz, hk⟩, st⟩ := hr T hT X
  cases hv
  rw [h0] at hz hk
  obtain ⟨t2, a1, b1⟩ := kk T'.heap (locs ++ L) (by rw [e1]; exact hPp) ⟨Nat.le_trans hS.1 (by rw [e1]; exact hz), fun q h1 h2 => by rw [e1, hk q (Nat.lt_of_lt_of_le h1 hS.1) h2]; exact hS.2.1 q h1 h2, fun q hq => by
      rcases List.mem_append.mp hq with h | h
      · exact hS.2.2 q h
      · exact hL q h⟩ T' rfl X'
  exact ⟨t2, st t2 a1, b1⟩
theorem s_goX {x : Nat} {hF : mH} (hr : vx_Run p l e R s m args below meth c H locs cells slots mc ms (F0 m pc lsM st0) rest' (s_no a) (s_XC base oa cA D cl x hF) (s_A base)) (hS : va_S (s_A base) s.heap H locs)
    (kx : ∀ (H1 : Heap) (locs1 : List Loc) (q : Addr) (ce : Cell), va_P D cl (s_rl base oa cA hF.1) H1 → va_S (s_A base) s.heap H1 locs1 → H1[q]? = some ce → ce.vm = .none → s.vm.findClass (s_ex x) = some ce.cls → vx_W p l e R s m args below meth c H1 locs1 (cells + mc) (slots + ms) Q (F0 m pc lsM rest') q) : W p l e R s m args below meth c H locs cells slots Q (F0 m pc lsM st0) := by
  intro T hT X
  rcases hr T hT X with ⟨v, st₀, t, T', L, h0, X', hL, e1, e2, hq, st⟩ | ⟨q, st₀, t, T', L, E, ce, h0, X', hL, e1, e2, ⟨rfl, hPp, hz, hk⟩, hce, hcv, hcl, st⟩
  · exact hq.elim
  · rw [h0] at hz hk
    obtain ⟨t2, a1, b1⟩ := kx T'.heap (locs ++ L) q ce (by rw [e1]; exact hPp) ⟨Nat.le_trans hS.1 (by rw [e1]; exact hz), fun q h1 h2 => by rw [e1, hk q (Nat.lt_of_lt_of_le h1 hS.1) h2]; exact hS.2.1 q h1 h2, fun q hq => by
        rcases List.mem_append.mp hq with h | h
        · exact hS.2.2 q h
        · exact hL q h⟩ (by rw [e1]; exact hce) hcv hcl T' rfl X'
    exact ⟨t2, st.trans a1, b1⟩
end S7
section S8
variable {Ts : List Cond} {cl : List vw_C} {tb : sT} {M : sM} {P : Nat → Nat → Option mI} {O : mO} {l : Launch} {base : Nat} {oa : Nat → Nat} {cA : Nat → ClassId} {D : va_G}
theorem s_goodIn {k : Nat} (hg : ∀ w ∈ Ts, goodWord w = true) (hk : s_ok1 Ts M k) : GoodIn Ts (s_ws Ts M k) := by
  intro w hw
  rcases List.mem_cons.mp hw with rfl | h
  · exact ⟨hk.2.2.2.1, good_of_word (hg _ hk.2.2.2.1)⟩
  · exact ⟨h, good_of_word (hg _ h)⟩
theorem s_wsC {k : Nat} (h : M.2.2.2.2 k = []) : s_ws Ts M k = Cond.code (M.1 k) (M.2.1 k) (M.2.2.1 k) (M.2.2.2.1 k) :: Ts := by
  unfold s_ws s_wd
  rw [h]
  rfl
theorem s_wsH {k : Nat} (h : ¬ (M.2.2.2.2 k).isEmpty = true) : s_ws Ts M k = Cond.codeWith (M.1 k) (M.2.1 k) (M.2.2.1 k) (M.2.2.2.1 k) (M.2.2.2.2 k) :: Ts := by
  unfold s_ws s_wd
  rw [if_neg h]
/-- the call itself: it returns -/
theorem s_callR {n d y pc k na rc : Nat} {st ls : List Value} {h h1 : mH} {v : Option Value} (hPr : s_Prog Ts cl tb M P) (hFT : s_FT Ts cl tb M P O l base oa cA D n) (hsite : s_site Ts cl tb M y pc k na rc) (hok : m_ok O (M.2.2.1 k) na rc st h = true)
    (hr : m_run P M.2.2.1 O n d k 0 (m_ent (M.2.2.1 k) (st.take na).reverse) [] h = some (.inl v, h1))
    {p : Program} {e : Env} {R : Room} {s : State} {m : MethodId} {args : Array Value} {below : List Frame} {meth : Method} {c : Code} {c0 s0 : Nat} {Q : State → Prop} (C : s_Cx base oa cA D cl O tb p s m args meth c (M.2.2.1 y) (M.1 y) (M.2.1 y) Ts) (hRf : d + 1 + 10 ≤ R.frames) (hRl : 41 * (d + 1) + 200 ≤ R.locals) (hz : h.2 = 0 → s.heap.size ≤ base + c0) (hc1 : s_nc h1 ≤ R.cells + c0) (hc2 : s_ns h1 ≤ R.slots + s0)
    (kk : s_V base oa cA D cl p l e R s m args below meth c (M.2.2.1 y) c0 s0 Q (pc + 3) ls (v.toList ++ st.drop na) h1) : s_V base oa cA D cl p l e R s m args below meth c (M.2.2.1 y) c0 s0 Q pc ls st h := by
  intro lsM H locs cells slots hl hP hS hc hs
  obtain ⟨hk, i, np, hnp, hkind⟩ := hsite
  obtain ⟨hx, hb, hml, hown, hts, hwd, hba, hlk, hnm⟩ := C
  simp only [m_ok, Bool.and_eq_true, decide_eq_true_eq] at hok
  obtain ⟨⟨⟨ho1, ho2⟩, ho3⟩, ho4⟩ := hok
  have hle := s_run_mo hPr _ _ _ _ _ _ _ _ hr
  simp only at hle
  have hMet := s_met hPr hFT hr ho2 hk
  refine s_W_size fun hsz => ?_
  have hpre : ∀ U : State, U.heap = H → s.WarmedH U.vm → s_Pc base oa cA D cl O tb (st.take na).reverse h (((st.take na).reverse.map (s_tv base oa)).toArray) U := by
    intro U hU hW
    refine ⟨rfl, by rw [hU]; exact hP, by rw [hU]; exact (hwd.kept hS.2.1).warm hW, by rw [hU]; exact Nat.le_trans hba hS.1, fun h0 => ?_⟩
    rw [hU]
    have := hz h0
    omega
  have hG := s_goodIn (M := M) (k := k) hPr.1 hk
  have hroom : (d + 10) + 1 ≤ R.frames ∧ 8 + (M.2.2.1 k + 11) + (41 * d + 200) ≤ R.locals := ⟨by omega, by have := hk.2.2.1; omega⟩
  have hmono : ((st.drop na).map (s_tv base oa)).map (fun v => v.category) = (st.drop na).map (fun v => v.category) := by rw [List.map_map]; exact List.map_congr_left fun v _ => s_tv_cat base oa v
  have hW : 2 * (F0 m pc lsM (st.map (s_tv base oa))).monitorRoom + (((st.drop na).map (s_tv base oa)).map fun v => v.category).sum ≤ 8 := by
    refine lv_room ?_
    rw [hmono]
    exact ho3
  have fin : ∀ {a : Array Value}, va_Run p l e R s m args below meth c H locs cells slots (s_nc h1 - s_nc h) (s_ns h1 - s_ns h) (F0 m pc lsM (st.map (s_tv base oa))) ((st.drop na).map (s_tv base oa)) (s_Qr base oa cA D cl v h1 a) (s_A base) → W p l e R s m args below meth c H locs cells slots Q (F0 m pc lsM (st.map (s_tv base oa))) := by
    intro a hrun
    refine s_goOn hrun hS fun H1 locs1 hP1 hS1 => ?_
    rw [s_toL]
    exact kk lsM H1 locs1 _ _ hl hP1 hS1 (by omega) (by omega)
  rcases hkind with ⟨hd, hna, hE, w1, w2, w3, hrc⟩ | ⟨hd, hna, w1, w2⟩ | ⟨hd, hna, hE, hrt, hin, w2, hrc, hlink⟩
  · subst hna
    have hrcv : ∃ v0, st[np]? = some v0 ∧ ∃ b, s_tv base oa v0 = .ref b ∧ ∃ cellB : Cell, H[b]? = some cellB ∧ cellB.vm.isStatics = false ∧ s.vm.findClass (M.1 k).cls = some cellB.cls := by
      simp only [Nat.add_sub_cancel] at ho4
      rcases hrc with ⟨rfl, hS0⟩ | ⟨j, T, N, rfl, hj⟩
      · simp only [m_rc] at ho4
        split at ho4
        · rename_i b hb0
          split at ho4
          · rename_i ci fs hcell
            simp at ho4
            subst ho4
            obtain ⟨r, hr9, -⟩ := hP b _ (s_rl_get hcell)
            rw [hPr.2.1] at hr9
            cases hr9
          · cases ho4
        · rename_i b hb0
          split at ho4
          · rename_i q9 hO
            refine ⟨_, hb0, oa b, rfl, ?_⟩
            obtain ⟨cell, g1, g2, g3, -⟩ := (hwd.2.1 _ _ hO).1.kept hS.2.1
            exact ⟨cell, g1, g2, by rw [hS0]; exact g3⟩
          · cases ho4
        · cases ho4
      · have hj9 : j < 999 := by
          rcases Nat.lt_or_ge j 999 with q | q
          · exact q
          · have h1 := (List.getElem?_eq_some_iff.mp hj).1
            have h2 := List.getElem?_eq_none_iff.mp hPr.2.1
            omega
        simp only [m_rc] at ho4
        split at ho4
        · rename_i b hb0
          split at ho4
          · rename_i ci fs hcell
            simp at ho4
            have : ci = j := by omega
            subst this
            refine ⟨_, hb0, base + b, rfl, va_recv hwd.1 hP hj (s_rl_get hcell)⟩
          · cases ho4
        · rename_i b hb0
          split at ho4
          · simp at ho4; omega
          · cases ho4
        · cases ho4
    obtain ⟨v0, hv0, b, hb0, hcB⟩ := hrcv
    obtain ⟨As, hAs, hAl, hst⟩ := s_stk hv0
    refine fin (va_runV (C := (M.1 k).cls) (b := b) (As := As.map (s_tv base oa)) (Ts := Ts) (own := (M.1 y).cls) (cc := M.2.1 y) (nL := M.2.2.1 y) ⟨hx, hb, hml, hown, hts⟩ hMet ⟨callB_of np hts hG (s_wsC hE) rfl rfl (hts _ hk.2.2.2.2) (hts _ w1) ⟨hk.2.1.1, hk.2.1.2, hnp⟩ hroom, hts _ w2, hts _ w3⟩ ⟨s_Pc_blind, hcB, ?_⟩ rfl (by rw [List.length_map]; exact hAl) hl.2.1 ?_ hW hd ⟨by show cells + _ ≤ _; omega, by show slots + _ ≤ _; omega⟩)
    · intro U hU hWm
      have := hpre U hU hWm
      rw [hAs, List.map_cons, hb0] at this
      rw [hAs]
      exact this
    · show st.map (s_tv base oa) = _
      conv => lhs; rw [hst]
      simp [hb0]
  · subst hna
    have hst : st.map (s_tv base oa) = (((st.take na).reverse).map (s_tv base oa)).reverse ++ (st.drop na).map (s_tv base oa) := by
      rw [← List.map_reverse, List.reverse_reverse, ← List.map_append, List.take_append_drop]
    by_cases hE : M.2.2.2.2 k = []
    · exact fin (va_runS (As := ((st.take na).reverse).map (s_tv base oa)) (Ts := Ts) (own := (M.1 y).cls) (cc := M.2.1 y) (nL := M.2.2.1 y) ⟨hx, hb, hml, hown, hts⟩ hMet ⟨callB_of na hts hG (s_wsC hE) rfl rfl (hts _ hk.2.2.2.2) (hts _ w1) ⟨hk.2.1.1, hk.2.1.2, hnp⟩ hroom, hts _ w2⟩ ⟨s_Pc_blind, hpre⟩ rfl (by simp; omega) hl.2.1 hst hW hd ⟨by show cells + _ ≤ _; omega, by show slots + _ ≤ _; omega⟩)
    · have hE' : ¬ (M.2.2.2.2 k).isEmpty = true := fun q => hE (List.isEmpty_iff.mp q)
      have hGS : GoodIn Ts (va_wsS (M.1 y).cls i (M.1 k) (s_ws Ts M k)) := by
        intro w hw
        rcases List.mem_append.mp hw with h | h
        · simp at h
          rcases h with rfl | rfl | rfl
          · exact ⟨w1, good_of_word (hPr.1 _ w1)⟩
          · exact ⟨w2, good_of_word (hPr.1 _ w2)⟩
          · exact ⟨hk.2.2.2.2, good_of_word (hPr.1 _ hk.2.2.2.2)⟩
        · exact hG w h
      exact fin (vx_runSW (As := ((st.take na).reverse).map (s_tv base oa)) (Ts := Ts) (own := (M.1 y).cls) (cc := M.2.1 y) (nL := M.2.2.1 y) ⟨hx, hb, hml, hown, hts⟩ hMet (vx_cwSW na hts hGS (s_wsH hE') rfl rfl ⟨hk.2.1.1, hk.2.1.2, hnp⟩ hroom) ⟨s_Pc_blind, hpre⟩ rfl (by simp; omega) hl.2.1 hst hW hd ⟨by show cells + _ ≤ _; omega, by show slots + _ ≤ _; omega⟩)
  · subst hna
    obtain ⟨j, T, N, rfl, hj⟩ := hrc
    have hrcv : ∃ v0, st[np]? = some v0 ∧ ∃ b, s_tv base oa v0 = .ref b := by
      simp only [Nat.add_sub_cancel] at ho4
      simp only [m_rc] at ho4
      split at ho4
      · rename_i b hb0
        exact ⟨_, hb0, _, rfl⟩
      · rename_i b hb0
        exact ⟨_, hb0, _, rfl⟩
      · cases ho4
    obtain ⟨v0, hv0, b, hb0⟩ := hrcv
    obtain ⟨As, hAs, hAl, hst⟩ := s_stk hv0
    have hstk : st.map (s_tv base oa) = (As.map (s_tv base oa)).reverse ++ .ref b :: (st.drop (np + 1)).map (s_tv base oa) := by
      conv => lhs; rw [hst]
      simp [hb0]
    have hpre' : ∀ U : State, U.heap = H → s.WarmedH U.vm → s_Pc base oa cA D cl O tb (st.take (np + 1)).reverse h ((Value.ref b :: As.map (s_tv base oa)).toArray) U := by
      intro U hU hWm
      have := hpre U hU hWm
      rw [hAs, List.map_cons, hb0] at this
      rw [hAs]
      exact this
    have hws : s_ws Ts M k = Cond.code (M.1 k) (M.2.1 k) (M.2.2.1 k) none :: Ts := by rw [s_wsC hE, hrt]
    rcases hlink with w1 | ⟨host, w1⟩
    · exact fin (va_runI (b := b) (As := As.map (s_tv base oa)) (Ts := Ts) (own := (M.1 y).cls) (cc := M.2.1 y) (nL := M.2.2.1 y) ⟨hx, hb, hml, hown, hts⟩ hMet ⟨callB_of np hts hG hws rfl rfl (hts _ hk.2.2.2.2) (hts _ w1) ⟨hk.2.1.1, hk.2.1.2, hnp⟩ hroom, hin, hts _ w2⟩ ⟨s_Pc_blind, hpre'⟩ rfl (by rw [List.length_map]; exact hAl) hl.2.1 hstk hW hd ⟨by show cells + _ ≤ _; omega, by show slots + _ ≤ _; omega⟩)
    · exact fin (va_runIN (b := b) (As := As.map (s_tv base oa)) (Ts := Ts) (own := (M.1 y).cls) (cc := M.2.1 y) (nL := M.2.2.1 y) ⟨hx, hb, hml, hown, hts⟩ hMet ⟨va_cnB np hts hG hws rfl rfl (hwd.2.2.2.2.1 _ w1) (hts _ hk.2.2.2.2) ⟨hk.2.1.1, hk.2.1.2, hnp⟩ hroom, hin, hts _ w2⟩ ⟨s_Pc_blind, hpre'⟩ rfl (by rw [List.length_map]; exact hAl) hl.2.1 hstk hW hd ⟨by show cells + _ ≤ _; omega, by show slots + _ ≤ _; omega⟩)
end S8
