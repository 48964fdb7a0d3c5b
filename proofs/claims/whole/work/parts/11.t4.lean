/-! Calls that throw, and the frame's law -/
section S9
variable {Ts : List Cond} {cl : List vw_C} {tb : sT} {M : sM} {P : Nat → Nat → Option mI} {O : mO} {l : Launch} {base : Nat} {oa : Nat → Nat} {cA : Nat → ClassId} {D : va_G}
theorem s_callX {n d y pc k na rc x : Nat} {st ls : List Value} {h h1 : mH} (hst0 : l.stackTraces = false) (hPr : s_Prog Ts cl tb M P) (hFT : s_FT Ts cl tb M P O l base oa cA D n) (hsite : s_site Ts cl tb M y pc k na rc) (hok : m_ok O (M.2.2.1 k) na rc st h = true) (hrc0 : ¬ 2000 < rc)
    (hr : m_run P M.2.2.1 O n d k 0 (m_ent (M.2.2.1 k) (st.take na).reverse) [] h = some (.inr x, h1))
    {p : Program} {e : Env} {R : Room} {s : State} {m : MethodId} {args : Array Value} {below : List Frame} {meth : Method} {c : Code} {c0 s0 : Nat} {Q : State → Prop} (C : s_Cx base oa cA D cl O tb p s m args meth c (M.2.2.1 y) (M.1 y) (M.2.1 y) Ts) (hRf : d + 1 + 10 ≤ R.frames) (hRl : 41 * (d + 1) + 200 ≤ R.locals) (hz : h.2 = 0 → s.heap.size ≤ base + c0) (hc1 : s_nc h1 ≤ R.cells + c0) (hc2 : s_ns h1 ≤ R.slots + s0)
    (kx : ∀ (lsM : Array Slot) (H : Heap) (q : Addr) (ce : Cell) (locs : List Loc) (cells slots : Nat), s_lr base oa (M.2.2.1 y) ls lsM → H[q]? = some ce → ce.vm = .none → s.vm.findClass (s_ex x) = some ce.cls → va_P D cl (s_rl base oa cA h1.1) H → va_S (s_A base) s.heap H locs → cells + c0 = s_nc h1 → slots + s0 = s_ns h1 →
      vx_W p l e R s m args below meth c H locs cells slots Q (F0 m pc lsM ((st.drop na).map (s_tv base oa))) q) : s_V base oa cA D cl p l e R s m args below meth c (M.2.2.1 y) c0 s0 Q pc ls st h := by
  intro lsM H locs cells slots hl hP hS hc hs
  obtain ⟨hk, i, np, hnp, hkind⟩ := hsite
  obtain ⟨hx, hb, hml, hown, hts, hwd, hba, hlk, hnm⟩ := C
  simp only [m_ok, Bool.and_eq_true, decide_eq_true_eq] at hok
  obtain ⟨⟨⟨ho1, ho2⟩, ho3⟩, ho4⟩ := hok
  have hle := s_run_mo hPr _ _ _ _ _ _ _ _ hr
  simp only at hle
  have hMet := s_mex hst0 hPr hFT hr ho2 hk
  refine s_W_size fun hsz => ?_
  have hpre : ∀ U : State, U.heap = H → s.WarmedH U.vm → s_Pc base oa cA D cl O tb (st.take na).reverse h (((st.take na).reverse.map (s_tv base oa)).toArray) U := by
    intro U hU hW
    refine ⟨rfl, by rw [hU]; exact hP, by rw [hU]; exact (hwd.kept hS.2.1).warm hW, by rw [hU]; exact Nat.le_trans hba hS.1, fun h0 => ?_⟩
    rw [hU]
    have := hz h0
    omega
  have hG := s_goodIn (M := M) (k := k) hPr.1 hk
  have hroom : (d + 10) + 1 ≤ R.frames ∧ 8 + (M.2.2.1 k + 11) + (41 * d + 200) ≤ R.locals := ⟨by omega, by have := hk.2.2.1; omega⟩
  have hmono : ((st.drop na).map (s_tv base oa)).map (fun v => v.category) = (st.drop na).map (fun v => v.category) := by rw [List.map_map]; exact List.map_congr_left fun v _ => s_tv_cat base oa v
  have hW : 2 * (F0 m pc lsM (st.map (s_tv base oa))).monitorRoom + (((st.drop na).map (s_tv base oa)).map fun v => v.category).sum ≤ 8 := by
    refine lv_room ?_
    rw [hmono]
    exact ho3
  have fin : ∀ {a : Array Value}, vx_Run p l e R s m args below meth c H locs cells slots (s_nc h1 - s_nc h) (s_ns h1 - s_ns h) (F0 m pc lsM (st.map (s_tv base oa))) ((st.drop na).map (s_tv base oa)) (s_no a) (s_XC base oa cA D cl x h1) (s_A base) → W p l e R s m args below meth c H locs cells slots Q (F0 m pc lsM (st.map (s_tv base oa))) := by
    intro a hrun
    refine s_goX hrun hS fun H1 locs1 q ce hP1 hS1 g1 g2 g3 => ?_
    exact kx lsM H1 q ce locs1 _ _ hl g1 g2 g3 hP1 hS1 (by omega) (by omega)
  rcases hkind with ⟨hd, hna, hE, w1, w2, w3, hrc⟩ | ⟨hd, hna, w1, w2⟩ | ⟨hd, hna, hE, hrt, hin, w2, hrc, hlink⟩
  · subst hna
    have hrcv : ∃ v0, st[np]? = some v0 ∧ ∃ b, s_tv base oa v0 = .ref b ∧ ∃ cellB : Cell, H[b]? = some cellB ∧ cellB.vm.isStatics = false ∧ s.vm.findClass (M.1 k).cls = some cellB.cls := by
      simp only [Nat.add_sub_cancel] at ho4
      rcases hrc with ⟨rfl, hS0⟩ | ⟨j, T, N, rfl, hj⟩
      · simp only [m_rc] at ho4
        split at ho4
        · rename_i b hb0
          split at ho4
          · rename_i ci fs hcell
            simp at ho4
            subst ho4
            obtain ⟨r, hr9, -⟩ := hP b _ (s_rl_get hcell)
            rw [hPr.2.1] at hr9
            cases hr9
          · cases ho4
        · rename_i b hb0
          split at ho4
          · rename_i q9 hO
            refine ⟨_, hb0, oa b, rfl, ?_⟩
            obtain ⟨cell, g1, g2, g3, -⟩ := (hwd.2.1 _ _ hO).1.kept hS.2.1
            exact ⟨cell, g1, g2, by rw [hS0]; exact g3⟩
          · cases ho4
        · cases ho4
      · have hj9 : j < 999 := by
          rcases Nat.lt_or_ge j 999 with q | q
          · exact q
          · have h1 := (List.getElem?_eq_some_iff.mp hj).1
            have h2 := List.getElem?_eq_none_iff.mp hPr.2.1
            omega
        simp only [m_rc] at ho4
        split at ho4
        · rename_i b hb0
          split at ho4
          · rename_i ci fs hcell
            simp at ho4
            have : ci = j := by omega
            subst this
            refine ⟨_, hb0, base + b, rfl, va_recv hwd.1 hP hj (s_rl_get hcell)⟩
          · cases ho4
        · rename_i b hb0
          split at ho4
          · simp at ho4; omega
          · cases ho4
        · cases ho4
    obtain ⟨v0, hv0, b, hb0, hcB⟩ := hrcv
    obtain ⟨As, hAs, hAl, hst⟩ := s_stk hv0
    refine fin (vx_runV (C := (M.1 k).cls) (b := b) (As := As.map (s_tv base oa)) (Ts := Ts) (own := (M.1 y).cls) (cc := M.2.1 y) (nL := M.2.2.1 y) ⟨hx, hb, hml, hown, hts⟩ hMet ⟨callB_of np hts hG (s_wsC hE) rfl rfl (hts _ hk.2.2.2.2) (hts _ w1) ⟨hk.2.1.1, hk.2.1.2, hnp⟩ hroom, hts _ w2, hts _ w3⟩ ⟨s_Pc_blind, hcB, ?_⟩ rfl (by rw [List.length_map]; exact hAl) hl.2.1 ?_ hW hd ⟨by show cells + _ ≤ _; omega, by show slots + _ ≤ _; omega⟩)
    · intro U hU hWm
      have := hpre U hU hWm
      rw [hAs, List.map_cons, hb0] at this
      rw [hAs]
      exact this
    · show st.map (s_tv base oa) = _
      conv => lhs; rw [hst]
      simp [hb0]
  · subst hna
    have hst : st.map (s_tv base oa) = (((st.take na).reverse).map (s_tv base oa)).reverse ++ (st.drop na).map (s_tv base oa) := by
      rw [← List.map_reverse, List.reverse_reverse, ← List.map_append, List.take_append_drop]
    by_cases hE : M.2.2.2.2 k = []
    · exact fin (vx_runS (As := ((st.take na).reverse).map (s_tv base oa)) (Ts := Ts) (own := (M.1 y).cls) (cc := M.2.1 y) (nL := M.2.2.1 y) ⟨hx, hb, hml, hown, hts⟩ hMet ⟨callB_of na hts hG (s_wsC hE) rfl rfl (hts _ hk.2.2.2.2) (hts _ w1) ⟨hk.2.1.1, hk.2.1.2, hnp⟩ hroom, hts _ w2⟩ ⟨s_Pc_blind, hpre⟩ rfl (by simp; omega) hl.2.1 hst hW hd ⟨by show cells + _ ≤ _; omega, by show slots + _ ≤ _; omega⟩)
    · have hE' : ¬ (M.2.2.2.2 k).isEmpty = true := fun q => hE (List.isEmpty_iff.mp q)
      have hGS : GoodIn Ts (va_wsS (M.1 y).cls i (M.1 k) (s_ws Ts M k)) := by
        intro w hw
        rcases List.mem_append.mp hw with h | h
        · simp at h
          rcases h with rfl | rfl | rfl
          · exact ⟨w1, good_of_word (hPr.1 _ w1)⟩
          · exact ⟨w2, good_of_word (hPr.1 _ w2)⟩
          · exact ⟨hk.2.2.2.2, good_of_word (hPr.1 _ hk.2.2.2.2)⟩
        · exact hG w h
      exact fin (vx_runSX (As := ((st.take na).reverse).map (s_tv base oa)) (Ts := Ts) (own := (M.1 y).cls) (cc := M.2.1 y) (nL := M.2.2.1 y) ⟨hx, hb, hml, hown, hts⟩ hMet (vx_cwSW na hts hGS (s_wsH hE') rfl rfl ⟨hk.2.1.1, hk.2.1.2, hnp⟩ hroom) ⟨s_Pc_blind, hpre⟩ rfl (by simp; omega) hl.2.1 hst hW hd ⟨by show cells + _ ≤ _; omega, by show slots + _ ≤ _; omega⟩)
  · obtain ⟨j, T, N, rfl, hj⟩ := hrc
    omega
theorem s_frame (hst0 : l.stackTraces = false) (hPr : s_Prog Ts cl tb M P) : ∀ n : Nat, s_FT Ts cl tb M P O l base oa cA D n := by
  intro n
  induction n with
  | zero => intro d y pc ls st h out hF hr; simp [m_run] at hr
  | succ n ih =>
    intro d y pc ls st h out hF hr p e R s m args below meth c c0 s0 Q C htab hRf hRl hz hc1 hc2 k1 k2 k3
    rw [m_run] at hr
    cases hp : P y pc with
    | none => simp [hp] at hr
    | some op =>
      have hop := hPr.2.2 y pc op hp
      rcases op with f | ⟨k, na, rc, hs⟩ | k | x
      · simp only [hp] at hr
        obtain ⟨q, hq, hr⟩ := Option.bind_eq_some_iff.mp hr
        obtain ⟨g1, g2, g3⟩ := hop.2 O ls st h q hq
        have hle := s_run_mo hPr _ _ _ _ _ _ _ _ hr
        simp only at hle
        exact hop.1 base oa cA D O p l e R s m args below meth c (M.2.2.1 y) c0 s0 Q ls st h q C (by omega) (by omega) hz hq (by omega) (by omega)
          (ih d y q.1 q.2.1 q.2.2.1 q.2.2.2 out hF hr p e R s m args below meth c c0 s0 Q C htab hRf hRl (fun h0 => hz (by omega)) hc1 hc2 k1 k2 k3)
      · simp only [hp] at hr
        cases d with
        | zero => simp at hr
        | succ d' =>
          simp only at hr
          split at hr
          · rename_i hok
            obtain ⟨q, hq, hr⟩ := Option.bind_eq_some_iff.mp hr
            rcases q with ⟨v | x, h1⟩
            · have hle := s_run_mo hPr _ _ _ _ _ _ _ _ hr
              have hle2 := s_run_mo hPr _ _ _ _ _ _ _ _ hq
              simp only at hle hle2
              exact s_callR hPr ih hop.1 hok hq C hRf hRl hz (by omega) (by omega)
                (ih (d' + 1) y (pc + 3) ls (v.toList ++ st.drop na) h1 out hF hr p e R s m args below meth c c0 s0 Q C htab hRf hRl (fun h0 => hz (by omega)) hc1 hc2 k1 k2 k3)
            · simp only at hr
              split at hr
              · cases hr
              · rename_i hrc0
                have hle2 := s_run_mo hPr _ _ _ _ _ _ _ _ hq
                simp only at hle2
                cases hf : m_find hs x with
                | none =>
                  simp only [hf] at hr
                  split at hr
                  · rename_i hemp
                    cases hr
                    refine s_callX hst0 hPr ih hop.1 hok hrc0 hq C hRf hRl hz (by omega) (by omega) fun lsM H q ce locs cells slots hl g1 g2 g3 g4 g5 g6 g7 => ?_
                    exact k3 x pc lsM _ H q ce locs cells slots rfl (hop.2.1 (List.isEmpty_iff.mp hemp)) g1 g2 g3 g4 g5 g6 g7
                  · cases hr
                | some z =>
                  obtain ⟨pz, jz⟩ := z
                  simp only [hf] at hr
                  split at hr
                  · rename_i hj
                    have hle := s_run_mo hPr _ _ _ _ _ _ _ _ hr
                    simp only at hle
                    have hV := ih (d' + 1) y pz (ls.set jz mJ) [] h1 out hF hr p e R s m args below meth c c0 s0 Q C htab hRf hRl (fun h0 => hz (by omega)) hc1 hc2 k1 k2 k3
                    refine s_callX hst0 hPr ih hop.1 hok hrc0 hq C hRf hRl hz (by omega) (by omega) fun lsM H q ce locs cells slots hl g1 g2 g3 g4 g5 g6 g7 => ?_
                    obtain ⟨pre, x', suf, name, t1, t2, t3, t4, t5, t6, t7⟩ := hop.2.2 x pz jz hf
                    obtain ⟨hx, hb, hml, hown, hts, hwd, hba, hlk, hnm⟩ := id C
                    refine y_catch hown pre x' suf (htab.trans t1) (fun z hz' => ?_) t3 t4 (hts _ t5) (va_Nw.use rfl (hwd.2.2.2.2.2.2.1 _ t6)) g1 g2 g3 ?_
                    · rcases t2 z hz' with q1 | ⟨q1, nm, q2, q3⟩
                      · exact Or.inl q1
                      · exact Or.inr ⟨q1, nm, hts _ q2, hwd.2.2.2.2.2.1 _ q3⟩
                    · rcases t7 with ⟨kk, dd, hi, rfl⟩ | ⟨dd, rfl⟩
                      · exact lv_astore_n (lv' := _) hx hb dd hi hl.2 (by rw [← hl.1]; exact hj.1) rfl (fun lsM' hl' => hV lsM' H locs cells slots (s_lr_junk hl hj.2 hl') g4 g5 g6 g7)
                      · exact lv_astore (lv' := _) hx hb dd hl.2 (by rw [← hl.1]; exact hj.1) rfl (fun lsM' hl' => hV lsM' H locs cells slots (s_lr_junk hl hj.2 hl') g4 g5 g6 g7)
                  · cases hr
          · cases hr
      · simp only [hp] at hr
        cases hm : m_ret k st with
        | none => simp [hm] at hr
        | some v =>
          simp only [hm, Option.map_some] at hr
          cases hr
          exact k1 pc ls st k v rfl hp hm
      · simp only [hp] at hr
        split at hr
        · rename_i hsum
          cases hr
          exact k2 pc ls st h x rfl hp rfl hsum
        · cases hr
end S9
