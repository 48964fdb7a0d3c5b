/-! The tables are backed, piece by piece: written by wip/whole/gen_prog.py -/
theorem dX11_heaviest_0 : decode cX11_heaviest 0 = .ok (.aload_n 0, 1) := by decide +kernel
theorem dX11_heaviest_1 : decode cX11_heaviest 1 = .ok (.iload_n 1, 1) := by decide +kernel
theorem dX11_heaviest_2 : decode cX11_heaviest 2 = .ok (.iload_n 2, 1) := by decide +kernel
theorem dX11_heaviest_3 : decode cX11_heaviest 3 = .ok (.iload_n 3, 1) := by decide +kernel
theorem dX11_heaviest_4 : decode cX11_heaviest 4 = .ok (.invokevirtual 238, 3) := by decide +kernel
theorem dX11_heaviest_7 : decode cX11_heaviest 7 = .ok (.aload_n 0, 1) := by decide +kernel
theorem dX11_heaviest_8 : decode cX11_heaviest 8 = .ok (.getfield 59, 3) := by decide +kernel
theorem dX11_heaviest_11 : decode cX11_heaviest 11 = .ok (.aload_n 0, 1) := by decide +kernel
theorem dX11_heaviest_12 : decode cX11_heaviest 12 = .ok (.getfield 10, 3) := by decide +kernel
theorem dX11_heaviest_15 : decode cX11_heaviest 15 = .ok (.iload_n 1, 1) := by decide +kernel
theorem dX11_heaviest_16 : decode cX11_heaviest 16 = .ok (.iload_n 2, 1) := by decide +kernel
theorem dX11_heaviest_17 : decode cX11_heaviest 17 = .ok (.iload_n 3, 1) := by decide +kernel
theorem dX11_heaviest_18 : decode cX11_heaviest 18 = .ok (.invokevirtual 241, 3) := by decide +kernel
theorem dX11_heaviest_21 : decode cX11_heaviest 21 = .ok (.aload_n 0, 1) := by decide +kernel
theorem dX11_heaviest_22 : decode cX11_heaviest 22 = .ok (.getfield 59, 3) := by decide +kernel
theorem dX11_heaviest_25 : decode cX11_heaviest 25 = .ok (.aload_n 0, 1) := by decide +kernel
theorem dX11_heaviest_26 : decode cX11_heaviest 26 = .ok (.getfield 10, 3) := by decide +kernel
theorem dX11_heaviest_29 : decode cX11_heaviest 29 = .ok (.invokevirtual 278, 3) := by decide +kernel
theorem dX11_heaviest_32 : decode cX11_heaviest 32 = .ok (.ireturn, 1) := by decide +kernel
set_option maxRecDepth 20000 in
theorem kb_130_0 : ∀ q ∈ tb_130_0, s_atx 130 yX11_heaviest cX11_heaviest q.1 q.2 := (List.forall_mem_cons.mpr ⟨⟨s_ldAn dX11_heaviest_0 rfl, s_mo_ldA _ _⟩, (List.forall_mem_cons.mpr ⟨⟨s_ldIn dX11_heaviest_1 rfl, s_mo_ldI _ _⟩, (List.forall_mem_cons.mpr ⟨⟨s_ldIn dX11_heaviest_2 rfl, s_mo_ldI _ _⟩, (List.forall_mem_cons.mpr ⟨⟨s_ldIn dX11_heaviest_3 rfl, s_mo_ldI _ _⟩, (List.forall_mem_cons.mpr ⟨⟨s_sV mk_130 mk_144 ok_144 (by decide +kernel) dX11_heaviest_4 w_1051 w_1053 wp_17 (Or.inr ⟨7, _, _, rfl, rfl⟩), s_h0 mk_130⟩, (List.forall_mem_cons.mpr ⟨⟨s_ldAn dX11_heaviest_7 rfl, s_mo_ldA _ _⟩, (List.forall_mem_cons.mpr ⟨⟨s_getf (ci := 7) (k := 9) rfl (by decide) inX11 w_306 dX11_heaviest_8, s_mo_getf _ _ _⟩, (List.forall_mem_cons.mpr ⟨⟨s_ldAn dX11_heaviest_11 rfl, s_mo_ldA _ _⟩, (List.forall_mem_cons.mpr ⟨⟨s_getf (ci := 7) (k := 0) rfl (by decide) inX11 w_297 dX11_heaviest_12, s_mo_getf _ _ _⟩, (List.forall_mem_cons.mpr ⟨⟨s_ldIn dX11_heaviest_15 rfl, s_mo_ldI _ _⟩, (List.forall_mem_cons.mpr ⟨⟨s_ldIn dX11_heaviest_16 rfl, s_mo_ldI _ _⟩, (List.forall_mem_cons.mpr ⟨⟨s_ldIn dX11_heaviest_17 rfl, s_mo_ldI _ _⟩, (List.forall_mem_cons.mpr ⟨⟨s_sV mk_130 mk_90 ok_90 (by decide +kernel) dX11_heaviest_18 w_1055 w_1056 w_1057 (Or.inr ⟨6, _, _, rfl, rfl⟩), s_h0 mk_130⟩, (List.forall_mem_cons.mpr ⟨⟨s_ldAn dX11_heaviest_21 rfl, s_mo_ldA _ _⟩, (List.forall_mem_cons.mpr ⟨⟨s_getf (ci := 7) (k := 9) rfl (by decide) inX11 w_306 dX11_heaviest_22, s_mo_getf _ _ _⟩, (List.forall_mem_cons.mpr ⟨⟨s_ldAn dX11_heaviest_25 rfl, s_mo_ldA _ _⟩, (List.forall_mem_cons.mpr ⟨⟨s_getf (ci := 7) (k := 0) rfl (by decide) inX11 w_297 dX11_heaviest_26, s_mo_getf _ _ _⟩, (List.forall_mem_cons.mpr ⟨⟨s_sV mk_130 mk_98 ok_98 (by decide +kernel) dX11_heaviest_29 w_1161 w_1162 w_1163 (Or.inr ⟨6, _, _, rfl, rfl⟩), s_h0 mk_130⟩, (List.forall_mem_cons.mpr ⟨s_r1 mk_130 dX11_heaviest_32, (fun _ h => absurd h List.not_mem_nil)⟩)⟩)⟩)⟩)⟩)⟩)⟩)⟩)⟩)⟩)⟩)⟩)⟩)⟩)⟩)⟩)⟩)⟩)⟩)
theorem km_130 : ∀ t ∈ tm_130, s_tok 130 t := (List.forall_mem_cons.mpr ⟨s_lift mk_130 kb_130_0, (fun _ h => absurd h List.not_mem_nil)⟩)
theorem dX11_frost_0 : decode cX11_frost 0 = .ok (.iload_n 2, 1) := by decide +kernel
theorem dX11_frost_1 : decode cX11_frost 1 = .ok (.iconst 1, 1) := by decide +kernel
theorem dX11_frost_2 : decode cX11_frost 2 = .ok (.bipush 60, 2) := by decide +kernel
theorem dX11_frost_4 : decode cX11_frost 4 = .ok (.invokestatic 166, 3) := by decide +kernel
theorem dX11_frost_7 : decode cX11_frost 7 = .ok (.aload_n 0, 1) := by decide +kernel
theorem dX11_frost_8 : decode cX11_frost 8 = .ok (.getfield 45, 3) := by decide +kernel
theorem dX11_frost_11 : decode cX11_frost 11 = .ok (.aload_n 0, 1) := by decide +kernel
theorem dX11_frost_12 : decode cX11_frost 12 = .ok (.getfield 10, 3) := by decide +kernel
theorem dX11_frost_15 : decode cX11_frost 15 = .ok (.invokevirtual 170, 3) := by decide +kernel
theorem dX11_frost_18 : decode cX11_frost 18 = .ok (.aload_n 0, 1) := by decide +kernel
theorem dX11_frost_19 : decode cX11_frost 19 = .ok (.getfield 10, 3) := by decide +kernel
theorem dX11_frost_22 : decode cX11_frost 22 = .ok (.iload_n 1, 1) := by decide +kernel
theorem dX11_frost_23 : decode cX11_frost 23 = .ok (.iload_n 2, 1) := by decide +kernel
theorem dX11_frost_24 : decode cX11_frost 24 = .ok (.invokestatic 282, 3) := by decide +kernel
theorem dX11_frost_27 : decode cX11_frost 27 = .ok (.ireturn, 1) := by decide +kernel
set_option maxRecDepth 20000 in
theorem kb_131_0 : ∀ q ∈ tb_131_0, s_atx 131 yX11_frost cX11_frost q.1 q.2 := (List.forall_mem_cons.mpr ⟨⟨s_ldIn dX11_frost_0 rfl, s_mo_ldI _ _⟩, (List.forall_mem_cons.mpr ⟨⟨s_iconst dX11_frost_1 (by decide +kernel), s_mo_push _ _⟩, (List.forall_mem_cons.mpr ⟨⟨s_bipush dX11_frost_2 (by decide +kernel), s_mo_push _ _⟩, (List.forall_mem_cons.mpr ⟨⟨s_sS mk_131 mk_147 ok_147 (by decide +kernel) dX11_frost_4 w_820 w_821, s_h0 mk_131⟩, (List.forall_mem_cons.mpr ⟨⟨s_ldAn dX11_frost_7 rfl, s_mo_ldA _ _⟩, (List.forall_mem_cons.mpr ⟨⟨s_getf (ci := 7) (k := 7) rfl (by decide) inX11 w_304 dX11_frost_8, s_mo_getf _ _ _⟩, (List.forall_mem_cons.mpr ⟨⟨s_ldAn dX11_frost_11 rfl, s_mo_ldA _ _⟩, (List.forall_mem_cons.mpr ⟨⟨s_getf (ci := 7) (k := 0) rfl (by decide) inX11 w_297 dX11_frost_12, s_mo_getf _ _ _⟩, (List.forall_mem_cons.mpr ⟨⟨s_sV mk_131 mk_73 ok_73 (by decide +kernel) dX11_frost_15 w_431 w_432 w_433 (Or.inr ⟨4, _, _, rfl, rfl⟩), s_h0 mk_131⟩, (List.forall_mem_cons.mpr ⟨⟨s_ldAn dX11_frost_18 rfl, s_mo_ldA _ _⟩, (List.forall_mem_cons.mpr ⟨⟨s_getf (ci := 7) (k := 0) rfl (by decide) inX11 w_297 dX11_frost_19, s_mo_getf _ _ _⟩, (List.forall_mem_cons.mpr ⟨⟨s_ldIn dX11_frost_22 rfl, s_mo_ldI _ _⟩, (List.forall_mem_cons.mpr ⟨⟨s_ldIn dX11_frost_23 rfl, s_mo_ldI _ _⟩, (List.forall_mem_cons.mpr ⟨⟨s_sS mk_131 mk_29 ok_29 (by decide +kernel) dX11_frost_24 w_1173 w_1174, s_h0 mk_131⟩, (List.forall_mem_cons.mpr ⟨s_r1 mk_131 dX11_frost_27, (fun _ h => absurd h List.not_mem_nil)⟩)⟩)⟩)⟩)⟩)⟩)⟩)⟩)⟩)⟩)⟩)⟩)⟩)⟩)⟩)
theorem km_131 : ∀ t ∈ tm_131, s_tok 131 t := (List.forall_mem_cons.mpr ⟨s_lift mk_131 kb_131_0, (fun _ h => absurd h List.not_mem_nil)⟩)
theorem dX11_odds_0 : decode cX11_odds 0 = .ok (.aload_n 0, 1) := by decide +kernel
theorem dX11_odds_1 : decode cX11_odds 1 = .ok (.getfield 10, 3) := by decide +kernel
theorem dX11_odds_4 : decode cX11_odds 4 = .ok (.invokestatic 285, 3) := by decide +kernel
theorem dX11_odds_7 : decode cX11_odds 7 = .ok (.ireturn, 1) := by decide +kernel
set_option maxRecDepth 20000 in
theorem kb_132_0 : ∀ q ∈ tb_132_0, s_atx 132 yX11_odds cX11_odds q.1 q.2 := (List.forall_mem_cons.mpr ⟨⟨s_ldAn dX11_odds_0 rfl, s_mo_ldA _ _⟩, (List.forall_mem_cons.mpr ⟨⟨s_getf (ci := 7) (k := 0) rfl (by decide) inX11 w_297 dX11_odds_1, s_mo_getf _ _ _⟩, (List.forall_mem_cons.mpr ⟨⟨s_sS mk_132 mk_34 ok_34 (by decide +kernel) dX11_odds_4 w_392 w_393, s_h0 mk_132⟩, (List.forall_mem_cons.mpr ⟨s_r1 mk_132 dX11_odds_7, (fun _ h => absurd h List.not_mem_nil)⟩)⟩)⟩)⟩)
theorem km_132 : ∀ t ∈ tm_132, s_tok 132 t := (List.forall_mem_cons.mpr ⟨s_lift mk_132 kb_132_0, (fun _ h => absurd h List.not_mem_nil)⟩)
theorem dX11_may_0 : decode cX11_may 0 = .ok (.aload_n 0, 1) := by decide +kernel
theorem dX11_may_1 : decode cX11_may 1 = .ok (.getfield 10, 3) := by decide +kernel
theorem dX11_may_4 : decode cX11_may 4 = .ok (.aload_n 0, 1) := by decide +kernel
theorem dX11_may_5 : decode cX11_may 5 = .ok (.getfield 10, 3) := by decide +kernel
theorem dX11_may_8 : decode cX11_may 8 = .ok (.getfield 263, 3) := by decide +kernel
theorem dX11_may_11 : decode cX11_may 11 = .ok (.aload_n 0, 1) := by decide +kernel
theorem dX11_may_12 : decode cX11_may 12 = .ok (.getfield 10, 3) := by decide +kernel
theorem dX11_may_15 : decode cX11_may 15 = .ok (.iconst 3, 1) := by decide +kernel
theorem dX11_may_16 : decode cX11_may 16 = .ok (.invokevirtual 288, 3) := by decide +kernel
theorem dX11_may_19 : decode cX11_may 19 = .ok (.iconst (-1), 1) := by decide +kernel
theorem dX11_may_20 : decode cX11_may 20 = .ok (.ixor, 1) := by decide +kernel
theorem dX11_may_21 : decode cX11_may 21 = .ok (.iand, 1) := by decide +kernel
theorem dX11_may_22 : decode cX11_may 22 = .ok (.iload_n 1, 1) := by decide +kernel
theorem dX11_may_23 : decode cX11_may 23 = .ok (.iconst (-1), 1) := by decide +kernel
theorem dX11_may_24 : decode cX11_may 24 = .ok (.ixor, 1) := by decide +kernel
theorem dX11_may_25 : decode cX11_may 25 = .ok (.iand, 1) := by decide +kernel
theorem dX11_may_26 : decode cX11_may 26 = .ok (.invokestatic 291, 3) := by decide +kernel
theorem dX11_may_29 : decode cX11_may 29 = .ok (.ireturn, 1) := by decide +kernel
set_option maxRecDepth 20000 in
theorem kb_133_0 : ∀ q ∈ tb_133_0, s_atx 133 yX11_may cX11_may q.1 q.2 := (List.forall_mem_cons.mpr ⟨⟨s_ldAn dX11_may_0 rfl, s_mo_ldA _ _⟩, (List.forall_mem_cons.mpr ⟨⟨s_getf (ci := 7) (k := 0) rfl (by decide) inX11 w_297 dX11_may_1, s_mo_getf _ _ _⟩, (List.forall_mem_cons.mpr ⟨⟨s_ldAn dX11_may_4 rfl, s_mo_ldA _ _⟩, (List.forall_mem_cons.mpr ⟨⟨s_getf (ci := 7) (k := 0) rfl (by decide) inX11 w_297 dX11_may_5, s_mo_getf _ _ _⟩, (List.forall_mem_cons.mpr ⟨⟨s_getf (ci := 0) (k := 3) rfl (by decide) inX0 w_68 dX11_may_8, s_mo_getf _ _ _⟩, (List.forall_mem_cons.mpr ⟨⟨s_ldAn dX11_may_11 rfl, s_mo_ldA _ _⟩, (List.forall_mem_cons.mpr ⟨⟨s_getf (ci := 7) (k := 0) rfl (by decide) inX11 w_297 dX11_may_12, s_mo_getf _ _ _⟩, (List.forall_mem_cons.mpr ⟨⟨s_iconst dX11_may_15 (by decide +kernel), s_mo_push _ _⟩, (List.forall_mem_cons.mpr ⟨⟨s_sV mk_133 mk_5 ok_5 (by decide +kernel) dX11_may_16 w_399 w_400 w_401 (Or.inr ⟨0, _, _, rfl, rfl⟩), s_h0 mk_133⟩, (List.forall_mem_cons.mpr ⟨⟨s_iconst dX11_may_19 (by decide +kernel), s_mo_push _ _⟩, (List.forall_mem_cons.mpr ⟨⟨s_ixor dX11_may_20, s_mo_bin _ _⟩, (List.forall_mem_cons.mpr ⟨⟨s_iand dX11_may_21, s_mo_bin _ _⟩, (List.forall_mem_cons.mpr ⟨⟨s_ldIn dX11_may_22 rfl, s_mo_ldI _ _⟩, (List.forall_mem_cons.mpr ⟨⟨s_iconst dX11_may_23 (by decide +kernel), s_mo_push _ _⟩, (List.forall_mem_cons.mpr ⟨⟨s_ixor dX11_may_24, s_mo_bin _ _⟩, (List.forall_mem_cons.mpr ⟨⟨s_iand dX11_may_25, s_mo_bin _ _⟩, (List.forall_mem_cons.mpr ⟨⟨s_sS mk_133 mk_67 ok_67 (by decide +kernel) dX11_may_26 w_403 w_404, s_h0 mk_133⟩, (List.forall_mem_cons.mpr ⟨s_r2 mk_133 dX11_may_29, (fun _ h => absurd h List.not_mem_nil)⟩)⟩)⟩)⟩)⟩)⟩)⟩)⟩)⟩)⟩)⟩)⟩)⟩)⟩)⟩)⟩)⟩)⟩)
theorem km_133 : ∀ t ∈ tm_133, s_tok 133 t := (List.forall_mem_cons.mpr ⟨s_lift mk_133 kb_133_0, (fun _ h => absurd h List.not_mem_nil)⟩)
theorem dX11_round_0 : decode cX11_round 0 = .ok (.aload_n 0, 1) := by decide +kernel
theorem dX11_round_1 : decode cX11_round 1 = .ok (.getfield 10, 3) := by decide +kernel
theorem dX11_round_4 : decode cX11_round 4 = .ok (.aload_n 0, 1) := by decide +kernel
theorem dX11_round_5 : decode cX11_round 5 = .ok (.getfield 10, 3) := by decide +kernel
theorem dX11_round_8 : decode cX11_round 8 = .ok (.iconst 1, 1) := by decide +kernel
theorem dX11_round_9 : decode cX11_round 9 = .ok (.invokevirtual 288, 3) := by decide +kernel
theorem dX11_round_12 : decode cX11_round 12 = .ok (.aload_n 0, 1) := by decide +kernel
theorem dX11_round_13 : decode cX11_round 13 = .ok (.getfield 10, 3) := by decide +kernel
theorem dX11_round_16 : decode cX11_round 16 = .ok (.iconst 3, 1) := by decide +kernel
theorem dX11_round_17 : decode cX11_round 17 = .ok (.invokevirtual 288, 3) := by decide +kernel
theorem dX11_round_20 : decode cX11_round 20 = .ok (.invokestatic 297, 3) := by decide +kernel
theorem dX11_round_23 : decode cX11_round 23 = .ok (.ireturn, 1) := by decide +kernel
set_option maxRecDepth 20000 in
theorem kb_134_0 : ∀ q ∈ tb_134_0, s_atx 134 yX11_round cX11_round q.1 q.2 := (List.forall_mem_cons.mpr ⟨⟨s_ldAn dX11_round_0 rfl, s_mo_ldA _ _⟩, (List.forall_mem_cons.mpr ⟨⟨s_getf (ci := 7) (k := 0) rfl (by decide) inX11 w_297 dX11_round_1, s_mo_getf _ _ _⟩, (List.forall_mem_cons.mpr ⟨⟨s_ldAn dX11_round_4 rfl, s_mo_ldA _ _⟩, (List.forall_mem_cons.mpr ⟨⟨s_getf (ci := 7) (k := 0) rfl (by decide) inX11 w_297 dX11_round_5, s_mo_getf _ _ _⟩, (List.forall_mem_cons.mpr ⟨⟨s_iconst dX11_round_8 (by decide +kernel), s_mo_push _ _⟩, (List.forall_mem_cons.mpr ⟨⟨s_sV mk_134 mk_5 ok_5 (by decide +kernel) dX11_round_9 w_399 w_400 w_401 (Or.inr ⟨0, _, _, rfl, rfl⟩), s_h0 mk_134⟩, (List.forall_mem_cons.mpr ⟨⟨s_ldAn dX11_round_12 rfl, s_mo_ldA _ _⟩, (List.forall_mem_cons.mpr ⟨⟨s_getf (ci := 7) (k := 0) rfl (by decide) inX11 w_297 dX11_round_13, s_mo_getf _ _ _⟩, (List.forall_mem_cons.mpr ⟨⟨s_iconst dX11_round_16 (by decide +kernel), s_mo_push _ _⟩, (List.forall_mem_cons.mpr ⟨⟨s_sV mk_134 mk_5 ok_5 (by decide +kernel) dX11_round_17 w_399 w_400 w_401 (Or.inr ⟨0, _, _, rfl, rfl⟩), s_h0 mk_134⟩, (List.forall_mem_cons.mpr ⟨⟨s_sS mk_134 mk_68 ok_68 (by decide +kernel) dX11_round_20 w_414 w_415, s_h0 mk_134⟩, (List.forall_mem_cons.mpr ⟨s_r1 mk_134 dX11_round_23, (fun _ h => absurd h List.not_mem_nil)⟩)⟩)⟩)⟩)⟩)⟩)⟩)⟩)⟩)⟩)⟩)⟩)
theorem km_134 : ∀ t ∈ tm_134, s_tok 134 t := (List.forall_mem_cons.mpr ⟨s_lift mk_134 kb_134_0, (fun _ h => absurd h List.not_mem_nil)⟩)
theorem dX11_mend_0 : decode cX11_mend 0 = .ok (.aload_n 0, 1) := by decide +kernel
theorem dX11_mend_1 : decode cX11_mend 1 = .ok (.getfield 10, 3) := by decide +kernel
theorem dX11_mend_4 : decode cX11_mend 4 = .ok (.aload_n 0, 1) := by decide +kernel
theorem dX11_mend_5 : decode cX11_mend 5 = .ok (.getfield 10, 3) := by decide +kernel
theorem dX11_mend_8 : decode cX11_mend 8 = .ok (.iconst 1, 1) := by decide +kernel
theorem dX11_mend_9 : decode cX11_mend 9 = .ok (.invokevirtual 288, 3) := by decide +kernel
theorem dX11_mend_12 : decode cX11_mend 12 = .ok (.aload_n 0, 1) := by decide +kernel
theorem dX11_mend_13 : decode cX11_mend 13 = .ok (.getfield 10, 3) := by decide +kernel
theorem dX11_mend_16 : decode cX11_mend 16 = .ok (.iconst 3, 1) := by decide +kernel
theorem dX11_mend_17 : decode cX11_mend 17 = .ok (.invokevirtual 288, 3) := by decide +kernel
theorem dX11_mend_20 : decode cX11_mend 20 = .ok (.invokestatic 297, 3) := by decide +kernel
theorem dX11_mend_23 : decode cX11_mend 23 = .ok (.istore_n 1, 1) := by decide +kernel
theorem dX11_mend_24 : decode cX11_mend 24 = .ok (.aload_n 0, 1) := by decide +kernel
theorem dX11_mend_25 : decode cX11_mend 25 = .ok (.getfield 45, 3) := by decide +kernel
theorem dX11_mend_28 : decode cX11_mend 28 = .ok (.aload_n 0, 1) := by decide +kernel
theorem dX11_mend_29 : decode cX11_mend 29 = .ok (.getfield 10, 3) := by decide +kernel
theorem dX11_mend_32 : decode cX11_mend 32 = .ok (.invokevirtual 170, 3) := by decide +kernel
theorem dX11_mend_35 : decode cX11_mend 35 = .ok (.iconst 0, 1) := by decide +kernel
theorem dX11_mend_36 : decode cX11_mend 36 = .ok (.istore_n 2, 1) := by decide +kernel
theorem dX11_mend_37 : decode cX11_mend 37 = .ok (.iconst 0, 1) := by decide +kernel
theorem dX11_mend_38 : decode cX11_mend 38 = .ok (.istore_n 3, 1) := by decide +kernel
theorem dX11_mend_39 : decode cX11_mend 39 = .ok (.iload_n 3, 1) := by decide +kernel
theorem dX11_mend_40 : decode cX11_mend 40 = .ok (.aload_n 0, 1) := by decide +kernel
theorem dX11_mend_41 : decode cX11_mend 41 = .ok (.getfield 10, 3) := by decide +kernel
theorem dX11_mend_44 : decode cX11_mend 44 = .ok (.getfield 187, 3) := by decide +kernel
theorem dX11_mend_47 : decode cX11_mend 47 = .ok (.if_icmp .ge 39, 3) := by decide +kernel
theorem dX11_mend_50 : decode cX11_mend 50 = .ok (.iload_n 1, 1) := by decide +kernel
theorem dX11_mend_51 : decode cX11_mend 51 = .ok (.iload_n 3, 1) := by decide +kernel
theorem dX11_mend_52 : decode cX11_mend 52 = .ok (.ishr, 1) := by decide +kernel
theorem dX11_mend_53 : decode cX11_mend 53 = .ok (.iconst 1, 1) := by decide +kernel
theorem dX11_mend_54 : decode cX11_mend 54 = .ok (.iand, 1) := by decide +kernel
theorem dX11_mend_55 : decode cX11_mend 55 = .ok (.ifCond .eq 25, 3) := by decide +kernel
theorem dX11_mend_58 : decode cX11_mend 58 = .ok (.iload_n 2, 1) := by decide +kernel
theorem dX11_mend_59 : decode cX11_mend 59 = .ok (.aload_n 0, 1) := by decide +kernel
theorem dX11_mend_60 : decode cX11_mend 60 = .ok (.getfield 10, 3) := by decide +kernel
theorem dX11_mend_63 : decode cX11_mend 63 = .ok (.getfield 141, 3) := by decide +kernel
theorem dX11_mend_66 : decode cX11_mend 66 = .ok (.iload_n 3, 1) := by decide +kernel
theorem dX11_mend_67 : decode cX11_mend 67 = .ok (.iaload, 1) := by decide +kernel
theorem dX11_mend_68 : decode cX11_mend 68 = .ok (.iadd, 1) := by decide +kernel
theorem dX11_mend_69 : decode cX11_mend 69 = .ok (.istore_n 2, 1) := by decide +kernel
theorem dX11_mend_70 : decode cX11_mend 70 = .ok (.aload_n 0, 1) := by decide +kernel
theorem dX11_mend_71 : decode cX11_mend 71 = .ok (.getfield 10, 3) := by decide +kernel
theorem dX11_mend_74 : decode cX11_mend 74 = .ok (.getfield 141, 3) := by decide +kernel
theorem dX11_mend_77 : decode cX11_mend 77 = .ok (.iload_n 3, 1) := by decide +kernel
theorem dX11_mend_78 : decode cX11_mend 78 = .ok (.iconst 0, 1) := by decide +kernel
theorem dX11_mend_79 : decode cX11_mend 79 = .ok (.iastore, 1) := by decide +kernel
theorem dX11_mend_80 : decode cX11_mend 80 = .ok (.iinc 3 1, 3) := by decide +kernel
theorem dX11_mend_83 : decode cX11_mend 83 = .ok (.goto (-44), 3) := by decide +kernel
theorem dX11_mend_86 : decode cX11_mend 86 = .ok (.iload_n 2, 1) := by decide +kernel
theorem dX11_mend_87 : decode cX11_mend 87 = .ok (.ireturn, 1) := by decide +kernel
set_option maxRecDepth 20000 in
theorem kb_135_0 : ∀ q ∈ tb_135_0, s_atx 135 yX11_mend cX11_mend q.1 q.2 := (List.forall_mem_cons.mpr ⟨⟨s_ldAn dX11_mend_0 rfl, s_mo_ldA _ _⟩, (List.forall_mem_cons.mpr ⟨⟨s_getf (ci := 7) (k := 0) rfl (by decide) inX11 w_297 dX11_mend_1, s_mo_getf _ _ _⟩, (List.forall_mem_cons.mpr ⟨⟨s_ldAn dX11_mend_4 rfl, s_mo_ldA _ _⟩, (List.forall_mem_cons.mpr ⟨⟨s_getf (ci := 7) (k := 0) rfl (by decide) inX11 w_297 dX11_mend_5, s_mo_getf _ _ _⟩, (List.forall_mem_cons.mpr ⟨⟨s_iconst dX11_mend_8 (by decide +kernel), s_mo_push _ _⟩, (List.forall_mem_cons.mpr ⟨⟨s_sV mk_135 mk_5 ok_5 (by decide +kernel) dX11_mend_9 w_399 w_400 w_401 (Or.inr ⟨0, _, _, rfl, rfl⟩), s_h0 mk_135⟩, (List.forall_mem_cons.mpr ⟨⟨s_ldAn dX11_mend_12 rfl, s_mo_ldA _ _⟩, (List.forall_mem_cons.mpr ⟨⟨s_getf (ci := 7) (k := 0) rfl (by decide) inX11 w_297 dX11_mend_13, s_mo_getf _ _ _⟩, (List.forall_mem_cons.mpr ⟨⟨s_iconst dX11_mend_16 (by decide +kernel), s_mo_push _ _⟩, (List.forall_mem_cons.mpr ⟨⟨s_sV mk_135 mk_5 ok_5 (by decide +kernel) dX11_mend_17 w_399 w_400 w_401 (Or.inr ⟨0, _, _, rfl, rfl⟩), s_h0 mk_135⟩, (List.forall_mem_cons.mpr ⟨⟨s_sS mk_135 mk_68 ok_68 (by decide +kernel) dX11_mend_20 w_414 w_415, s_h0 mk_135⟩, (List.forall_mem_cons.mpr ⟨⟨s_stIn dX11_mend_23 rfl, s_mo_stI _ _⟩, (List.forall_mem_cons.mpr ⟨⟨s_ldAn dX11_mend_24 rfl, s_mo_ldA _ _⟩, (List.forall_mem_cons.mpr ⟨⟨s_getf (ci := 7) (k := 7) rfl (by decide) inX11 w_304 dX11_mend_25, s_mo_getf _ _ _⟩, (List.forall_mem_cons.mpr ⟨⟨s_ldAn dX11_mend_28 rfl, s_mo_ldA _ _⟩, (List.forall_mem_cons.mpr ⟨⟨s_getf (ci := 7) (k := 0) rfl (by decide) inX11 w_297 dX11_mend_29, s_mo_getf _ _ _⟩, (List.forall_mem_cons.mpr ⟨⟨s_sV mk_135 mk_73 ok_73 (by decide +kernel) dX11_mend_32 w_431 w_432 w_433 (Or.inr ⟨4, _, _, rfl, rfl⟩), s_h0 mk_135⟩, (List.forall_mem_cons.mpr ⟨⟨s_iconst dX11_mend_35 (by decide +kernel), s_mo_push _ _⟩, (List.forall_mem_cons.mpr ⟨⟨s_stIn dX11_mend_36 rfl, s_mo_stI _ _⟩, (List.forall_mem_cons.mpr ⟨⟨s_iconst dX11_mend_37 (by decide +kernel), s_mo_push _ _⟩, (List.forall_mem_cons.mpr ⟨⟨s_stIn dX11_mend_38 rfl, s_mo_stI _ _⟩, (List.forall_mem_cons.mpr ⟨⟨s_ldIn dX11_mend_39 rfl, s_mo_ldI _ _⟩, (List.forall_mem_cons.mpr ⟨⟨s_ldAn dX11_mend_40 rfl, s_mo_ldA _ _⟩, (List.forall_mem_cons.mpr ⟨⟨s_getf (ci := 7) (k := 0) rfl (by decide) inX11 w_297 dX11_mend_41, s_mo_getf _ _ _⟩, (List.forall_mem_cons.mpr ⟨⟨s_getf (ci := 0) (k := 2) rfl (by decide) inX0 w_63 dX11_mend_44, s_mo_getf _ _ _⟩, (List.forall_mem_cons.mpr ⟨⟨s_icge dX11_mend_47 (by decide), s_mo_icge _ _⟩, (List.forall_mem_cons.mpr ⟨⟨s_ldIn dX11_mend_50 rfl, s_mo_ldI _ _⟩, (List.forall_mem_cons.mpr ⟨⟨s_ldIn dX11_mend_51 rfl, s_mo_ldI _ _⟩, (List.forall_mem_cons.mpr ⟨⟨s_ishr dX11_mend_52, s_mo_bin _ _⟩, (List.forall_mem_cons.mpr ⟨⟨s_iconst dX11_mend_53 (by decide +kernel), s_mo_push _ _⟩, (List.forall_mem_cons.mpr ⟨⟨s_iand dX11_mend_54, s_mo_bin _ _⟩, (List.forall_mem_cons.mpr ⟨⟨s_ifeq dX11_mend_55 (by decide), s_mo_ifeq _ _⟩, (List.forall_mem_cons.mpr ⟨⟨s_ldIn dX11_mend_58 rfl, s_mo_ldI _ _⟩, (List.forall_mem_cons.mpr ⟨⟨s_ldAn dX11_mend_59 rfl, s_mo_ldA _ _⟩, (List.forall_mem_cons.mpr ⟨⟨s_getf (ci := 7) (k := 0) rfl (by decide) inX11 w_297 dX11_mend_60, s_mo_getf _ _ _⟩, (List.forall_mem_cons.mpr ⟨⟨s_getf (ci := 0) (k := 9) rfl (by decide) inX0 w_94 dX11_mend_63, s_mo_getf _ _ _⟩, (fun _ h => absurd h List.not_mem_nil)⟩)⟩)⟩)⟩)⟩)⟩)⟩)⟩)⟩)⟩)⟩)⟩)⟩)⟩)⟩)⟩)⟩)⟩)⟩)⟩)⟩)⟩)⟩)⟩)⟩)⟩)⟩)⟩)⟩)⟩)⟩)⟩)⟩)⟩)⟩)⟩)
set_option maxRecDepth 20000 in
theorem kb_135_1 : ∀ q ∈ tb_135_1, s_atx 135 yX11_mend cX11_mend q.1 q.2 := (List.forall_mem_cons.mpr ⟨⟨s_ldIn dX11_mend_66 rfl, s_mo_ldI _ _⟩, (List.forall_mem_cons.mpr ⟨⟨s_iald dX11_mend_67, s_mo_iald _⟩, (List.forall_mem_cons.mpr ⟨⟨s_iadd dX11_mend_68, s_mo_bin _ _⟩, (List.forall_mem_cons.mpr ⟨⟨s_stIn dX11_mend_69 rfl, s_mo_stI _ _⟩, (List.forall_mem_cons.mpr ⟨⟨s_ldAn dX11_mend_70 rfl, s_mo_ldA _ _⟩, (List.forall_mem_cons.mpr ⟨⟨s_getf (ci := 7) (k := 0) rfl (by decide) inX11 w_297 dX11_mend_71, s_mo_getf _ _ _⟩, (List.forall_mem_cons.mpr ⟨⟨s_getf (ci := 0) (k := 9) rfl (by decide) inX0 w_94 dX11_mend_74, s_mo_getf _ _ _⟩, (List.forall_mem_cons.mpr ⟨⟨s_ldIn dX11_mend_77 rfl, s_mo_ldI _ _⟩, (List.forall_mem_cons.mpr ⟨⟨s_iconst dX11_mend_78 (by decide +kernel), s_mo_push _ _⟩, (List.forall_mem_cons.mpr ⟨⟨s_iast dX11_mend_79, s_mo_iast _⟩, (List.forall_mem_cons.mpr ⟨⟨s_inc dX11_mend_80 (by decide +kernel), s_mo_inc _ _ _⟩, (List.forall_mem_cons.mpr ⟨⟨s_goto dX11_mend_83 (by decide), s_mo_goto _⟩, (List.forall_mem_cons.mpr ⟨⟨s_ldIn dX11_mend_86 rfl, s_mo_ldI _ _⟩, (List.forall_mem_cons.mpr ⟨s_r1 mk_135 dX11_mend_87, (fun _ h => absurd h List.not_mem_nil)⟩)⟩)⟩)⟩)⟩)⟩)⟩)⟩)⟩)⟩)⟩)⟩)⟩)⟩)
theorem km_135 : ∀ t ∈ tm_135, s_tok 135 t := (List.forall_mem_cons.mpr ⟨s_lift mk_135 kb_135_0, (List.forall_mem_cons.mpr ⟨s_lift mk_135 kb_135_1, (fun _ h => absurd h List.not_mem_nil)⟩)⟩)
theorem dX11_rounds_0 : decode cX11_rounds 0 = .ok (.aload_n 0, 1) := by decide +kernel
theorem dX11_rounds_1 : decode cX11_rounds 1 = .ok (.getfield 10, 3) := by decide +kernel
theorem dX11_rounds_4 : decode cX11_rounds 4 = .ok (.invokestatic 300, 3) := by decide +kernel
theorem dX11_rounds_7 : decode cX11_rounds 7 = .ok (.ireturn, 1) := by decide +kernel
set_option maxRecDepth 20000 in
theorem kb_136_0 : ∀ q ∈ tb_136_0, s_atx 136 yX11_rounds cX11_rounds q.1 q.2 := (List.forall_mem_cons.mpr ⟨⟨s_ldAn dX11_rounds_0 rfl, s_mo_ldA _ _⟩, (List.forall_mem_cons.mpr ⟨⟨s_getf (ci := 7) (k := 0) rfl (by decide) inX11 w_297 dX11_rounds_1, s_mo_getf _ _ _⟩, (List.forall_mem_cons.mpr ⟨⟨s_sS mk_136 mk_70 ok_70 (by decide +kernel) dX11_rounds_4 w_443 w_444, s_h0 mk_136⟩, (List.forall_mem_cons.mpr ⟨s_r1 mk_136 dX11_rounds_7, (fun _ h => absurd h List.not_mem_nil)⟩)⟩)⟩)⟩)
theorem km_136 : ∀ t ∈ tm_136, s_tok 136 t := (List.forall_mem_cons.mpr ⟨s_lift mk_136 kb_136_0, (fun _ h => absurd h List.not_mem_nil)⟩)
theorem dX11_lamps_0 : decode cX11_lamps 0 = .ok (.iload_n 2, 1) := by decide +kernel
theorem dX11_lamps_1 : decode cX11_lamps 1 = .ok (.invokestatic 176, 3) := by decide +kernel
theorem dX11_lamps_4 : decode cX11_lamps 4 = .ok (.aload_n 0, 1) := by decide +kernel
theorem dX11_lamps_5 : decode cX11_lamps 5 = .ok (.getfield 10, 3) := by decide +kernel
theorem dX11_lamps_8 : decode cX11_lamps 8 = .ok (.iload_n 1, 1) := by decide +kernel
theorem dX11_lamps_9 : decode cX11_lamps 9 = .ok (.aload_n 0, 1) := by decide +kernel
theorem dX11_lamps_10 : decode cX11_lamps 10 = .ok (.getfield 10, 3) := by decide +kernel
theorem dX11_lamps_13 : decode cX11_lamps 13 = .ok (.getfield 263, 3) := by decide +kernel
theorem dX11_lamps_16 : decode cX11_lamps 16 = .ok (.iand, 1) := by decide +kernel
theorem dX11_lamps_17 : decode cX11_lamps 17 = .ok (.iload_n 2, 1) := by decide +kernel
theorem dX11_lamps_18 : decode cX11_lamps 18 = .ok (.invokestatic 303, 3) := by decide +kernel
theorem dX11_lamps_21 : decode cX11_lamps 21 = .ok (.ireturn, 1) := by decide +kernel
set_option maxRecDepth 20000 in
theorem kb_137_0 : ∀ q ∈ tb_137_0, s_atx 137 yX11_lamps cX11_lamps q.1 q.2 := (List.forall_mem_cons.mpr ⟨⟨s_ldIn dX11_lamps_0 rfl, s_mo_ldI _ _⟩, (List.forall_mem_cons.mpr ⟨⟨s_sS mk_137 mk_145 ok_145 (by decide +kernel) dX11_lamps_1 w_837 w_838, s_h0 mk_137⟩, (List.forall_mem_cons.mpr ⟨⟨s_ldAn dX11_lamps_4 rfl, s_mo_ldA _ _⟩, (List.forall_mem_cons.mpr ⟨⟨s_getf (ci := 7) (k := 0) rfl (by decide) inX11 w_297 dX11_lamps_5, s_mo_getf _ _ _⟩, (List.forall_mem_cons.mpr ⟨⟨s_ldIn dX11_lamps_8 rfl, s_mo_ldI _ _⟩, (List.forall_mem_cons.mpr ⟨⟨s_ldAn dX11_lamps_9 rfl, s_mo_ldA _ _⟩, (List.forall_mem_cons.mpr ⟨⟨s_getf (ci := 7) (k := 0) rfl (by decide) inX11 w_297 dX11_lamps_10, s_mo_getf _ _ _⟩, (List.forall_mem_cons.mpr ⟨⟨s_getf (ci := 0) (k := 3) rfl (by decide) inX0 w_68 dX11_lamps_13, s_mo_getf _ _ _⟩, (List.forall_mem_cons.mpr ⟨⟨s_iand dX11_lamps_16, s_mo_bin _ _⟩, (List.forall_mem_cons.mpr ⟨⟨s_ldIn dX11_lamps_17 rfl, s_mo_ldI _ _⟩, (List.forall_mem_cons.mpr ⟨⟨s_sS mk_137 mk_39 ok_39 (by decide +kernel) dX11_lamps_18 w_1190 w_1191, s_h0 mk_137⟩, (List.forall_mem_cons.mpr ⟨s_r1 mk_137 dX11_lamps_21, (fun _ h => absurd h List.not_mem_nil)⟩)⟩)⟩)⟩)⟩)⟩)⟩)⟩)⟩)⟩)⟩)⟩)
theorem km_137 : ∀ t ∈ tm_137, s_tok 137 t := (List.forall_mem_cons.mpr ⟨s_lift mk_137 kb_137_0, (fun _ h => absurd h List.not_mem_nil)⟩)
theorem dX11_undo_0 : decode cX11_undo 0 = .ok (.aload_n 0, 1) := by decide +kernel
theorem dX11_undo_1 : decode cX11_undo 1 = .ok (.getfield 45, 3) := by decide +kernel
theorem dX11_undo_4 : decode cX11_undo 4 = .ok (.aload_n 0, 1) := by decide +kernel
theorem dX11_undo_5 : decode cX11_undo 5 = .ok (.getfield 10, 3) := by decide +kernel
theorem dX11_undo_8 : decode cX11_undo 8 = .ok (.invokevirtual 306, 3) := by decide +kernel
theorem dX11_undo_11 : decode cX11_undo 11 = .ok (.ireturn, 1) := by decide +kernel
set_option maxRecDepth 20000 in
theorem kb_138_0 : ∀ q ∈ tb_138_0, s_atx 138 yX11_undo cX11_undo q.1 q.2 := (List.forall_mem_cons.mpr ⟨⟨s_ldAn dX11_undo_0 rfl, s_mo_ldA _ _⟩, (List.forall_mem_cons.mpr ⟨⟨s_getf (ci := 7) (k := 7) rfl (by decide) inX11 w_304 dX11_undo_1, s_mo_getf _ _ _⟩, (List.forall_mem_cons.mpr ⟨⟨s_ldAn dX11_undo_4 rfl, s_mo_ldA _ _⟩, (List.forall_mem_cons.mpr ⟨⟨s_getf (ci := 7) (k := 0) rfl (by decide) inX11 w_297 dX11_undo_5, s_mo_getf _ _ _⟩, (List.forall_mem_cons.mpr ⟨⟨s_sV mk_138 mk_74 ok_74 (by decide +kernel) dX11_undo_8 w_452 w_453 w_454 (Or.inr ⟨4, _, _, rfl, rfl⟩), s_h0 mk_138⟩, (List.forall_mem_cons.mpr ⟨s_r2 mk_138 dX11_undo_11, (fun _ h => absurd h List.not_mem_nil)⟩)⟩)⟩)⟩)⟩)⟩)
theorem km_138 : ∀ t ∈ tm_138, s_tok 138 t := (List.forall_mem_cons.mpr ⟨s_lift mk_138 kb_138_0, (fun _ h => absurd h List.not_mem_nil)⟩)
theorem dX11_image_0 : decode cX11_image 0 = .ok (.aload_n 0, 1) := by decide +kernel
theorem dX11_image_1 : decode cX11_image 1 = .ok (.getfield 19, 3) := by decide +kernel
theorem dX11_image_4 : decode cX11_image 4 = .ok (.aload_n 0, 1) := by decide +kernel
theorem dX11_image_5 : decode cX11_image 5 = .ok (.getfield 10, 3) := by decide +kernel
theorem dX11_image_8 : decode cX11_image 8 = .ok (.invokevirtual 93, 3) := by decide +kernel
theorem dX11_image_11 : decode cX11_image 11 = .ok (.aload_n 0, 1) := by decide +kernel
theorem dX11_image_12 : decode cX11_image 12 = .ok (.getfield 32, 3) := by decide +kernel
theorem dX11_image_15 : decode cX11_image 15 = .ok (.aload_n 0, 1) := by decide +kernel
theorem dX11_image_16 : decode cX11_image 16 = .ok (.getfield 25, 3) := by decide +kernel
theorem dX11_image_19 : decode cX11_image 19 = .ok (.invokevirtual 310, 3) := by decide +kernel
theorem dX11_image_22 : decode cX11_image 22 = .ok (.aload_n 0, 1) := by decide +kernel
theorem dX11_image_23 : decode cX11_image 23 = .ok (.iconst 1, 1) := by decide +kernel
theorem dX11_image_24 : decode cX11_image 24 = .ok (.putfield 78, 3) := by decide +kernel
theorem dX11_image_27 : decode cX11_image 27 = .ok (.return_, 1) := by decide +kernel
set_option maxRecDepth 20000 in
theorem kb_139_0 : ∀ q ∈ tb_139_0, s_atx 139 yX11_image cX11_image q.1 q.2 := (List.forall_mem_cons.mpr ⟨⟨s_ldAn dX11_image_0 rfl, s_mo_ldA _ _⟩, (List.forall_mem_cons.mpr ⟨⟨s_getf (ci := 7) (k := 2) rfl (by decide) inX11 w_299 dX11_image_1, s_mo_getf _ _ _⟩, (List.forall_mem_cons.mpr ⟨⟨s_ldAn dX11_image_4 rfl, s_mo_ldA _ _⟩, (List.forall_mem_cons.mpr ⟨⟨s_getf (ci := 7) (k := 0) rfl (by decide) inX11 w_297 dX11_image_5, s_mo_getf _ _ _⟩, (List.forall_mem_cons.mpr ⟨⟨s_sV mk_139 mk_2 ok_2 (by decide +kernel) dX11_image_8 w_460 w_461 w_462 (Or.inr ⟨0, _, _, rfl, rfl⟩), s_h0 mk_139⟩, (List.forall_mem_cons.mpr ⟨⟨s_ldAn dX11_image_11 rfl, s_mo_ldA _ _⟩, (List.forall_mem_cons.mpr ⟨⟨s_getf (ci := 7) (k := 5) rfl (by decide) inX11 w_302 dX11_image_12, s_mo_getf _ _ _⟩, (List.forall_mem_cons.mpr ⟨⟨s_ldAn dX11_image_15 rfl, s_mo_ldA _ _⟩, (List.forall_mem_cons.mpr ⟨⟨s_getf (ci := 7) (k := 3) rfl (by decide) inX11 w_300 dX11_image_16, s_mo_getf _ _ _⟩, (List.forall_mem_cons.mpr ⟨⟨s_sV mk_139 mk_44 ok_44 (by decide +kernel) dX11_image_19 w_465 w_466 w_467 (Or.inr ⟨2, _, _, rfl, rfl⟩), s_h0 mk_139⟩, (List.forall_mem_cons.mpr ⟨⟨s_ldAn dX11_image_22 rfl, s_mo_ldA _ _⟩, (List.forall_mem_cons.mpr ⟨⟨s_iconst dX11_image_23 (by decide +kernel), s_mo_push _ _⟩, (List.forall_mem_cons.mpr ⟨⟨s_putZ (ci := 7) (k := 13) rfl (by decide) inX11 tyX11_ok nmX11 rfl rfl w_310 dX11_image_24, s_mo_putZ _ _ _⟩, (List.forall_mem_cons.mpr ⟨s_r0 mk_139 dX11_image_27, (fun _ h => absurd h List.not_mem_nil)⟩)⟩)⟩)⟩)⟩)⟩)⟩)⟩)⟩)⟩)⟩)⟩)⟩)⟩)
theorem km_139 : ∀ t ∈ tm_139, s_tok 139 t := (List.forall_mem_cons.mpr ⟨s_lift mk_139 kb_139_0, (fun _ h => absurd h List.not_mem_nil)⟩)
theorem dX11_back_0 : decode cX11_back 0 = .ok (.aload_n 0, 1) := by decide +kernel
theorem dX11_back_1 : decode cX11_back 1 = .ok (.getfield 78, 3) := by decide +kernel
theorem dX11_back_4 : decode cX11_back 4 = .ok (.ifCond .ne 5, 3) := by decide +kernel
theorem dX11_back_7 : decode cX11_back 7 = .ok (.iconst 0, 1) := by decide +kernel
theorem dX11_back_8 : decode cX11_back 8 = .ok (.ireturn, 1) := by decide +kernel
theorem dX11_back_9 : decode cX11_back 9 = .ok (.aload_n 0, 1) := by decide +kernel
theorem dX11_back_10 : decode cX11_back 10 = .ok (.getfield 10, 3) := by decide +kernel
theorem dX11_back_13 : decode cX11_back 13 = .ok (.aload_n 0, 1) := by decide +kernel
theorem dX11_back_14 : decode cX11_back 14 = .ok (.getfield 19, 3) := by decide +kernel
theorem dX11_back_17 : decode cX11_back 17 = .ok (.invokevirtual 93, 3) := by decide +kernel
theorem dX11_back_20 : decode cX11_back 20 = .ok (.aload_n 0, 1) := by decide +kernel
theorem dX11_back_21 : decode cX11_back 21 = .ok (.getfield 25, 3) := by decide +kernel
theorem dX11_back_24 : decode cX11_back 24 = .ok (.aload_n 0, 1) := by decide +kernel
theorem dX11_back_25 : decode cX11_back 25 = .ok (.getfield 32, 3) := by decide +kernel
theorem dX11_back_28 : decode cX11_back 28 = .ok (.invokevirtual 310, 3) := by decide +kernel
theorem dX11_back_31 : decode cX11_back 31 = .ok (.aload_n 0, 1) := by decide +kernel
theorem dX11_back_32 : decode cX11_back 32 = .ok (.getfield 45, 3) := by decide +kernel
theorem dX11_back_35 : decode cX11_back 35 = .ok (.invokevirtual 119, 3) := by decide +kernel
theorem dX11_back_38 : decode cX11_back 38 = .ok (.iconst 1, 1) := by decide +kernel
theorem dX11_back_39 : decode cX11_back 39 = .ok (.ireturn, 1) := by decide +kernel
set_option maxRecDepth 20000 in
theorem kb_140_0 : ∀ q ∈ tb_140_0, s_atx 140 yX11_back cX11_back q.1 q.2 := (List.forall_mem_cons.mpr ⟨⟨s_ldAn dX11_back_0 rfl, s_mo_ldA _ _⟩, (List.forall_mem_cons.mpr ⟨⟨s_getf (ci := 7) (k := 13) rfl (by decide) inX11 w_310 dX11_back_1, s_mo_getf _ _ _⟩, (List.forall_mem_cons.mpr ⟨⟨s_ifne dX11_back_4 (by decide), s_mo_ifne _ _⟩, (List.forall_mem_cons.mpr ⟨⟨s_iconst dX11_back_7 (by decide +kernel), s_mo_push _ _⟩, (List.forall_mem_cons.mpr ⟨s_r2 mk_140 dX11_back_8, (List.forall_mem_cons.mpr ⟨⟨s_ldAn dX11_back_9 rfl, s_mo_ldA _ _⟩, (List.forall_mem_cons.mpr ⟨⟨s_getf (ci := 7) (k := 0) rfl (by decide) inX11 w_297 dX11_back_10, s_mo_getf _ _ _⟩, (List.forall_mem_cons.mpr ⟨⟨s_ldAn dX11_back_13 rfl, s_mo_ldA _ _⟩, (List.forall_mem_cons.mpr ⟨⟨s_getf (ci := 7) (k := 2) rfl (by decide) inX11 w_299 dX11_back_14, s_mo_getf _ _ _⟩, (List.forall_mem_cons.mpr ⟨⟨s_sV mk_140 mk_2 ok_2 (by decide +kernel) dX11_back_17 w_460 w_461 w_462 (Or.inr ⟨0, _, _, rfl, rfl⟩), s_h0 mk_140⟩, (List.forall_mem_cons.mpr ⟨⟨s_ldAn dX11_back_20 rfl, s_mo_ldA _ _⟩, (List.forall_mem_cons.mpr ⟨⟨s_getf (ci := 7) (k := 3) rfl (by decide) inX11 w_300 dX11_back_21, s_mo_getf _ _ _⟩, (List.forall_mem_cons.mpr ⟨⟨s_ldAn dX11_back_24 rfl, s_mo_ldA _ _⟩, (List.forall_mem_cons.mpr ⟨⟨s_getf (ci := 7) (k := 5) rfl (by decide) inX11 w_302 dX11_back_25, s_mo_getf _ _ _⟩, (List.forall_mem_cons.mpr ⟨⟨s_sV mk_140 mk_44 ok_44 (by decide +kernel) dX11_back_28 w_465 w_466 w_467 (Or.inr ⟨2, _, _, rfl, rfl⟩), s_h0 mk_140⟩, (List.forall_mem_cons.mpr ⟨⟨s_ldAn dX11_back_31 rfl, s_mo_ldA _ _⟩, (List.forall_mem_cons.mpr ⟨⟨s_getf (ci := 7) (k := 7) rfl (by decide) inX11 w_304 dX11_back_32, s_mo_getf _ _ _⟩, (List.forall_mem_cons.mpr ⟨⟨s_sV mk_140 mk_72 ok_72 (by decide +kernel) dX11_back_35 w_474 w_475 w_476 (Or.inr ⟨4, _, _, rfl, rfl⟩), s_h0 mk_140⟩, (List.forall_mem_cons.mpr ⟨⟨s_iconst dX11_back_38 (by decide +kernel), s_mo_push _ _⟩, (List.forall_mem_cons.mpr ⟨s_r2 mk_140 dX11_back_39, (fun _ h => absurd h List.not_mem_nil)⟩)⟩)⟩)⟩)⟩)⟩)⟩)⟩)⟩)⟩)⟩)⟩)⟩)⟩)⟩)⟩)⟩)⟩)⟩)⟩)
theorem km_140 : ∀ t ∈ tm_140, s_tok 140 t := (List.forall_mem_cons.mpr ⟨s_lift mk_140 kb_140_0, (fun _ h => absurd h List.not_mem_nil)⟩)
theorem dX11_count_0 : decode cX11_count 0 = .ok (.iload_n 1, 1) := by decide +kernel
theorem dX11_count_1 : decode cX11_count 1 = .ok (.tableswitch 153 0 9 #[55, 63, 71, 79, 87, 95, 103, 118, 130, 138], 55) := by decide +kernel
theorem dX11_count_56 : decode cX11_count 56 = .ok (.aload_n 0, 1) := by decide +kernel
theorem dX11_count_57 : decode cX11_count 57 = .ok (.getfield 10, 3) := by decide +kernel
theorem dX11_count_60 : decode cX11_count 60 = .ok (.getfield 313, 3) := by decide +kernel
theorem dX11_count_63 : decode cX11_count 63 = .ok (.ireturn, 1) := by decide +kernel
theorem dX11_count_64 : decode cX11_count 64 = .ok (.aload_n 0, 1) := by decide +kernel
theorem dX11_count_65 : decode cX11_count 65 = .ok (.getfield 10, 3) := by decide +kernel
theorem dX11_count_68 : decode cX11_count 68 = .ok (.getfield 316, 3) := by decide +kernel
theorem dX11_count_71 : decode cX11_count 71 = .ok (.ireturn, 1) := by decide +kernel
theorem dX11_count_72 : decode cX11_count 72 = .ok (.aload_n 0, 1) := by decide +kernel
theorem dX11_count_73 : decode cX11_count 73 = .ok (.getfield 10, 3) := by decide +kernel
theorem dX11_count_76 : decode cX11_count 76 = .ok (.getfield 157, 3) := by decide +kernel
theorem dX11_count_79 : decode cX11_count 79 = .ok (.ireturn, 1) := by decide +kernel
theorem dX11_count_80 : decode cX11_count 80 = .ok (.aload_n 0, 1) := by decide +kernel
theorem dX11_count_81 : decode cX11_count 81 = .ok (.getfield 10, 3) := by decide +kernel
theorem dX11_count_84 : decode cX11_count 84 = .ok (.getfield 113, 3) := by decide +kernel
theorem dX11_count_87 : decode cX11_count 87 = .ok (.ireturn, 1) := by decide +kernel
theorem dX11_count_88 : decode cX11_count 88 = .ok (.aload_n 0, 1) := by decide +kernel
theorem dX11_count_89 : decode cX11_count 89 = .ok (.getfield 25, 3) := by decide +kernel
theorem dX11_count_92 : decode cX11_count 92 = .ok (.getfield 125, 3) := by decide +kernel
theorem dX11_count_95 : decode cX11_count 95 = .ok (.ireturn, 1) := by decide +kernel
theorem dX11_count_96 : decode cX11_count 96 = .ok (.aload_n 0, 1) := by decide +kernel
theorem dX11_count_97 : decode cX11_count 97 = .ok (.getfield 10, 3) := by decide +kernel
theorem dX11_count_100 : decode cX11_count 100 = .ok (.getfield 210, 3) := by decide +kernel
theorem dX11_count_103 : decode cX11_count 103 = .ok (.ireturn, 1) := by decide +kernel
theorem dX11_count_104 : decode cX11_count 104 = .ok (.aload_n 0, 1) := by decide +kernel
theorem dX11_count_105 : decode cX11_count 105 = .ok (.getfield 10, 3) := by decide +kernel
theorem dX11_count_108 : decode cX11_count 108 = .ok (.aload_n 0, 1) := by decide +kernel
theorem dX11_count_109 : decode cX11_count 109 = .ok (.getfield 10, 3) := by decide +kernel
theorem dX11_count_112 : decode cX11_count 112 = .ok (.getfield 141, 3) := by decide +kernel
theorem dX11_count_115 : decode cX11_count 115 = .ok (.invokevirtual 319, 3) := by decide +kernel
theorem dX11_count_118 : decode cX11_count 118 = .ok (.ireturn, 1) := by decide +kernel
theorem dX11_count_119 : decode cX11_count 119 = .ok (.aload_n 0, 1) := by decide +kernel
theorem dX11_count_120 : decode cX11_count 120 = .ok (.getfield 10, 3) := by decide +kernel
theorem dX11_count_123 : decode cX11_count 123 = .ok (.iconst 3, 1) := by decide +kernel
theorem dX11_count_124 : decode cX11_count 124 = .ok (.invokevirtual 288, 3) := by decide +kernel
theorem dX11_count_127 : decode cX11_count 127 = .ok (.invokestatic 258, 3) := by decide +kernel
theorem dX11_count_130 : decode cX11_count 130 = .ok (.ireturn, 1) := by decide +kernel
theorem dX11_count_131 : decode cX11_count 131 = .ok (.aload_n 0, 1) := by decide +kernel
theorem dX11_count_132 : decode cX11_count 132 = .ok (.getfield 45, 3) := by decide +kernel
theorem dX11_count_135 : decode cX11_count 135 = .ok (.getfield 323, 3) := by decide +kernel
theorem dX11_count_138 : decode cX11_count 138 = .ok (.ireturn, 1) := by decide +kernel
theorem dX11_count_139 : decode cX11_count 139 = .ok (.aload_n 0, 1) := by decide +kernel
theorem dX11_count_140 : decode cX11_count 140 = .ok (.getfield 10, 3) := by decide +kernel
theorem dX11_count_143 : decode cX11_count 143 = .ok (.aload_n 0, 1) := by decide +kernel
theorem dX11_count_144 : decode cX11_count 144 = .ok (.getfield 10, 3) := by decide +kernel
theorem dX11_count_147 : decode cX11_count 147 = .ok (.getfield 138, 3) := by decide +kernel
theorem dX11_count_150 : decode cX11_count 150 = .ok (.invokevirtual 319, 3) := by decide +kernel
theorem dX11_count_153 : decode cX11_count 153 = .ok (.ireturn, 1) := by decide +kernel
theorem dX11_count_154 : decode cX11_count 154 = .ok (.iconst (-1), 1) := by decide +kernel
theorem dX11_count_155 : decode cX11_count 155 = .ok (.ireturn, 1) := by decide +kernel
set_option maxRecDepth 20000 in
theorem kb_141_0 : ∀ q ∈ tb_141_0, s_atx 141 yX11_count cX11_count q.1 q.2 := (List.forall_mem_cons.mpr ⟨⟨s_ldIn dX11_count_0 rfl, s_mo_ldI _ _⟩, (List.forall_mem_cons.mpr ⟨⟨s_table dX11_count_1 (by decide) (by decide) (by decide +kernel), s_mo_table _ _ _⟩, (List.forall_mem_cons.mpr ⟨⟨s_ldAn dX11_count_56 rfl, s_mo_ldA _ _⟩, (List.forall_mem_cons.mpr ⟨⟨s_getf (ci := 7) (k := 0) rfl (by decide) inX11 w_297 dX11_count_57, s_mo_getf _ _ _⟩, (List.forall_mem_cons.mpr ⟨⟨s_getf (ci := 0) (k := 0) rfl (by decide) inX0 w_52 dX11_count_60, s_mo_getf _ _ _⟩, (List.forall_mem_cons.mpr ⟨s_r1 mk_141 dX11_count_63, (fun _ h => absurd h List.not_mem_nil)⟩)⟩)⟩)⟩)⟩)⟩)
set_option maxRecDepth 20000 in
theorem kb_141_1 : ∀ q ∈ tb_141_1, s_atx 141 yX11_count cX11_count q.1 q.2 := (List.forall_mem_cons.mpr ⟨⟨s_ldAn dX11_count_64 rfl, s_mo_ldA _ _⟩, (List.forall_mem_cons.mpr ⟨⟨s_getf (ci := 7) (k := 0) rfl (by decide) inX11 w_297 dX11_count_65, s_mo_getf _ _ _⟩, (List.forall_mem_cons.mpr ⟨⟨s_getf (ci := 0) (k := 1) rfl (by decide) inX0 w_55 dX11_count_68, s_mo_getf _ _ _⟩, (List.forall_mem_cons.mpr ⟨s_r1 mk_141 dX11_count_71, (List.forall_mem_cons.mpr ⟨⟨s_ldAn dX11_count_72 rfl, s_mo_ldA _ _⟩, (List.forall_mem_cons.mpr ⟨⟨s_getf (ci := 7) (k := 0) rfl (by decide) inX11 w_297 dX11_count_73, s_mo_getf _ _ _⟩, (List.forall_mem_cons.mpr ⟨⟨s_getf (ci := 0) (k := 12) rfl (by decide) inX0 w_106 dX11_count_76, s_mo_getf _ _ _⟩, (List.forall_mem_cons.mpr ⟨s_r1 mk_141 dX11_count_79, (List.forall_mem_cons.mpr ⟨⟨s_ldAn dX11_count_80 rfl, s_mo_ldA _ _⟩, (List.forall_mem_cons.mpr ⟨⟨s_getf (ci := 7) (k := 0) rfl (by decide) inX11 w_297 dX11_count_81, s_mo_getf _ _ _⟩, (List.forall_mem_cons.mpr ⟨⟨s_getf (ci := 0) (k := 17) rfl (by decide) inX0 w_121 dX11_count_84, s_mo_getf _ _ _⟩, (List.forall_mem_cons.mpr ⟨s_r1 mk_141 dX11_count_87, (List.forall_mem_cons.mpr ⟨⟨s_ldAn dX11_count_88 rfl, s_mo_ldA _ _⟩, (List.forall_mem_cons.mpr ⟨⟨s_getf (ci := 7) (k := 3) rfl (by decide) inX11 w_300 dX11_count_89, s_mo_getf _ _ _⟩, (List.forall_mem_cons.mpr ⟨⟨s_getf (ci := 2) (k := 0) rfl (by decide) inX5 w_167 dX11_count_92, s_mo_getf _ _ _⟩, (List.forall_mem_cons.mpr ⟨s_r1 mk_141 dX11_count_95, (List.forall_mem_cons.mpr ⟨⟨s_ldAn dX11_count_96 rfl, s_mo_ldA _ _⟩, (List.forall_mem_cons.mpr ⟨⟨s_getf (ci := 7) (k := 0) rfl (by decide) inX11 w_297 dX11_count_97, s_mo_getf _ _ _⟩, (List.forall_mem_cons.mpr ⟨⟨s_getf (ci := 0) (k := 14) rfl (by decide) inX0 w_113 dX11_count_100, s_mo_getf _ _ _⟩, (List.forall_mem_cons.mpr ⟨s_r1 mk_141 dX11_count_103, (List.forall_mem_cons.mpr ⟨⟨s_ldAn dX11_count_104 rfl, s_mo_ldA _ _⟩, (List.forall_mem_cons.mpr ⟨⟨s_getf (ci := 7) (k := 0) rfl (by decide) inX11 w_297 dX11_count_105, s_mo_getf _ _ _⟩, (List.forall_mem_cons.mpr ⟨⟨s_ldAn dX11_count_108 rfl, s_mo_ldA _ _⟩, (List.forall_mem_cons.mpr ⟨⟨s_getf (ci := 7) (k := 0) rfl (by decide) inX11 w_297 dX11_count_109, s_mo_getf _ _ _⟩, (List.forall_mem_cons.mpr ⟨⟨s_getf (ci := 0) (k := 9) rfl (by decide) inX0 w_94 dX11_count_112, s_mo_getf _ _ _⟩, (List.forall_mem_cons.mpr ⟨⟨s_sV mk_141 mk_6 ok_6 (by decide +kernel) dX11_count_115 w_482 w_483 w_484 (Or.inr ⟨0, _, _, rfl, rfl⟩), s_h0 mk_141⟩, (List.forall_mem_cons.mpr ⟨s_r1 mk_141 dX11_count_118, (List.forall_mem_cons.mpr ⟨⟨s_ldAn dX11_count_119 rfl, s_mo_ldA _ _⟩, (List.forall_mem_cons.mpr ⟨⟨s_getf (ci := 7) (k := 0) rfl (by decide) inX11 w_297 dX11_count_120, s_mo_getf _ _ _⟩, (List.forall_mem_cons.mpr ⟨⟨s_iconst dX11_count_123 (by decide +kernel), s_mo_push _ _⟩, (List.forall_mem_cons.mpr ⟨⟨s_sV mk_141 mk_5 ok_5 (by decide +kernel) dX11_count_124 w_399 w_400 w_401 (Or.inr ⟨0, _, _, rfl, rfl⟩), s_h0 mk_141⟩, (List.forall_mem_cons.mpr ⟨⟨s_sS mk_141 mk_254 ok_254 (by decide +kernel) dX11_count_127 w_486 w_422, s_h0 mk_141⟩, (fun _ h => absurd h List.not_mem_nil)⟩)⟩)⟩)⟩)⟩)⟩)⟩)⟩)⟩)⟩)⟩)⟩)⟩)⟩)⟩)⟩)⟩)⟩)⟩)⟩)⟩)⟩)⟩)⟩)⟩)⟩)⟩)⟩)⟩)⟩)⟩)⟩)
set_option maxRecDepth 20000 in
theorem kb_141_2 : ∀ q ∈ tb_141_2, s_atx 141 yX11_count cX11_count q.1 q.2 := (List.forall_mem_cons.mpr ⟨s_r1 mk_141 dX11_count_130, (List.forall_mem_cons.mpr ⟨⟨s_ldAn dX11_count_131 rfl, s_mo_ldA _ _⟩, (List.forall_mem_cons.mpr ⟨⟨s_getf (ci := 7) (k := 7) rfl (by decide) inX11 w_304 dX11_count_132, s_mo_getf _ _ _⟩, (List.forall_mem_cons.mpr ⟨⟨s_getf (ci := 4) (k := 0) rfl (by decide) inX8 w_223 dX11_count_135, s_mo_getf _ _ _⟩, (List.forall_mem_cons.mpr ⟨s_r1 mk_141 dX11_count_138, (List.forall_mem_cons.mpr ⟨⟨s_ldAn dX11_count_139 rfl, s_mo_ldA _ _⟩, (List.forall_mem_cons.mpr ⟨⟨s_getf (ci := 7) (k := 0) rfl (by decide) inX11 w_297 dX11_count_140, s_mo_getf _ _ _⟩, (List.forall_mem_cons.mpr ⟨⟨s_ldAn dX11_count_143 rfl, s_mo_ldA _ _⟩, (List.forall_mem_cons.mpr ⟨⟨s_getf (ci := 7) (k := 0) rfl (by decide) inX11 w_297 dX11_count_144, s_mo_getf _ _ _⟩, (List.forall_mem_cons.mpr ⟨⟨s_getf (ci := 0) (k := 8) rfl (by decide) inX0 w_87 dX11_count_147, s_mo_getf _ _ _⟩, (List.forall_mem_cons.mpr ⟨⟨s_sV mk_141 mk_6 ok_6 (by decide +kernel) dX11_count_150 w_482 w_483 w_484 (Or.inr ⟨0, _, _, rfl, rfl⟩), s_h0 mk_141⟩, (List.forall_mem_cons.mpr ⟨s_r1 mk_141 dX11_count_153, (List.forall_mem_cons.mpr ⟨⟨s_iconst dX11_count_154 (by decide +kernel), s_mo_push _ _⟩, (List.forall_mem_cons.mpr ⟨s_r1 mk_141 dX11_count_155, (fun _ h => absurd h List.not_mem_nil)⟩)⟩)⟩)⟩)⟩)⟩)⟩)⟩)⟩)⟩)⟩)⟩)⟩)⟩)
theorem km_141 : ∀ t ∈ tm_141, s_tok 141 t := (List.forall_mem_cons.mpr ⟨s_lift mk_141 kb_141_0, (List.forall_mem_cons.mpr ⟨s_lift mk_141 kb_141_1, (List.forall_mem_cons.mpr ⟨s_lift mk_141 kb_141_2, (fun _ h => absurd h List.not_mem_nil)⟩)⟩)⟩)
theorem dX11_checkPane_0 : decode cX11_checkPane 0 = .ok (.iload_n 1, 1) := by decide +kernel
theorem dX11_checkPane_1 : decode cX11_checkPane 1 = .ok (.ifCond .lt 14, 3) := by decide +kernel
theorem dX11_checkPane_4 : decode cX11_checkPane 4 = .ok (.iload_n 1, 1) := by decide +kernel
theorem dX11_checkPane_5 : decode cX11_checkPane 5 = .ok (.aload_n 0, 1) := by decide +kernel
theorem dX11_checkPane_6 : decode cX11_checkPane 6 = .ok (.getfield 10, 3) := by decide +kernel
theorem dX11_checkPane_9 : decode cX11_checkPane 9 = .ok (.getfield 187, 3) := by decide +kernel
theorem dX11_checkPane_12 : decode cX11_checkPane 12 = .ok (.if_icmp .lt 11, 3) := by decide +kernel
theorem dX11_checkPane_15 : decode cX11_checkPane 15 = .ok (.new 160, 3) := by decide +kernel
theorem dX11_checkPane_18 : decode cX11_checkPane 18 = .ok (.dup, 1) := by decide +kernel
theorem dX11_checkPane_19 : decode cX11_checkPane 19 = .ok (.invokespecial 162, 3) := by decide +kernel
theorem dX11_checkPane_22 : decode cX11_checkPane 22 = .ok (.athrow, 1) := by decide +kernel
theorem dX11_checkPane_23 : decode cX11_checkPane 23 = .ok (.return_, 1) := by decide +kernel
set_option maxRecDepth 20000 in
theorem kb_142_0 : ∀ q ∈ tb_142_0, s_atx 142 yX11_checkPane cX11_checkPane q.1 q.2 := (List.forall_mem_cons.mpr ⟨⟨s_ldIn dX11_checkPane_0 rfl, s_mo_ldI _ _⟩, (List.forall_mem_cons.mpr ⟨⟨s_iflt dX11_checkPane_1 (by decide), s_mo_iflt _ _⟩, (List.forall_mem_cons.mpr ⟨⟨s_ldIn dX11_checkPane_4 rfl, s_mo_ldI _ _⟩, (List.forall_mem_cons.mpr ⟨⟨s_ldAn dX11_checkPane_5 rfl, s_mo_ldA _ _⟩, (List.forall_mem_cons.mpr ⟨⟨s_getf (ci := 7) (k := 0) rfl (by decide) inX11 w_297 dX11_checkPane_6, s_mo_getf _ _ _⟩, (List.forall_mem_cons.mpr ⟨⟨s_getf (ci := 0) (k := 2) rfl (by decide) inX0 w_63 dX11_checkPane_9, s_mo_getf _ _ _⟩, (List.forall_mem_cons.mpr ⟨⟨s_iclt dX11_checkPane_12 (by decide), s_mo_iclt _ _⟩, (List.forall_mem_cons.mpr ⟨s_t mk_142 dX11_checkPane_15 dX11_checkPane_18 dX11_checkPane_19 dX11_checkPane_22 (by decide +kernel) w_766 w_22 x_GlassCity_162g x_GlassCity_162b x_GlassCity_162o, (List.forall_mem_cons.mpr ⟨s_r0 mk_142 dX11_checkPane_23, (fun _ h => absurd h List.not_mem_nil)⟩)⟩)⟩)⟩)⟩)⟩)⟩)⟩)⟩)
theorem km_142 : ∀ t ∈ tm_142, s_tok 142 t := (List.forall_mem_cons.mpr ⟨s_lift mk_142 kb_142_0, (fun _ h => absurd h List.not_mem_nil)⟩)
theorem dX11_checkSeer_0 : decode cX11_checkSeer 0 = .ok (.iload_n 1, 1) := by decide +kernel
theorem dX11_checkSeer_1 : decode cX11_checkSeer 1 = .ok (.ifCond .lt 14, 3) := by decide +kernel
theorem dX11_checkSeer_4 : decode cX11_checkSeer 4 = .ok (.iload_n 1, 1) := by decide +kernel
theorem dX11_checkSeer_5 : decode cX11_checkSeer 5 = .ok (.aload_n 0, 1) := by decide +kernel
theorem dX11_checkSeer_6 : decode cX11_checkSeer 6 = .ok (.getfield 10, 3) := by decide +kernel
theorem dX11_checkSeer_9 : decode cX11_checkSeer 9 = .ok (.getfield 210, 3) := by decide +kernel
theorem dX11_checkSeer_12 : decode cX11_checkSeer 12 = .ok (.if_icmp .lt 11, 3) := by decide +kernel
theorem dX11_checkSeer_15 : decode cX11_checkSeer 15 = .ok (.new 160, 3) := by decide +kernel
theorem dX11_checkSeer_18 : decode cX11_checkSeer 18 = .ok (.dup, 1) := by decide +kernel
theorem dX11_checkSeer_19 : decode cX11_checkSeer 19 = .ok (.invokespecial 162, 3) := by decide +kernel
theorem dX11_checkSeer_22 : decode cX11_checkSeer 22 = .ok (.athrow, 1) := by decide +kernel
theorem dX11_checkSeer_23 : decode cX11_checkSeer 23 = .ok (.return_, 1) := by decide +kernel
set_option maxRecDepth 20000 in
theorem kb_143_0 : ∀ q ∈ tb_143_0, s_atx 143 yX11_checkSeer cX11_checkSeer q.1 q.2 := (List.forall_mem_cons.mpr ⟨⟨s_ldIn dX11_checkSeer_0 rfl, s_mo_ldI _ _⟩, (List.forall_mem_cons.mpr ⟨⟨s_iflt dX11_checkSeer_1 (by decide), s_mo_iflt _ _⟩, (List.forall_mem_cons.mpr ⟨⟨s_ldIn dX11_checkSeer_4 rfl, s_mo_ldI _ _⟩, (List.forall_mem_cons.mpr ⟨⟨s_ldAn dX11_checkSeer_5 rfl, s_mo_ldA _ _⟩, (List.forall_mem_cons.mpr ⟨⟨s_getf (ci := 7) (k := 0) rfl (by decide) inX11 w_297 dX11_checkSeer_6, s_mo_getf _ _ _⟩, (List.forall_mem_cons.mpr ⟨⟨s_getf (ci := 0) (k := 14) rfl (by decide) inX0 w_113 dX11_checkSeer_9, s_mo_getf _ _ _⟩, (List.forall_mem_cons.mpr ⟨⟨s_iclt dX11_checkSeer_12 (by decide), s_mo_iclt _ _⟩, (List.forall_mem_cons.mpr ⟨s_t mk_143 dX11_checkSeer_15 dX11_checkSeer_18 dX11_checkSeer_19 dX11_checkSeer_22 (by decide +kernel) w_766 w_22 x_GlassCity_162g x_GlassCity_162b x_GlassCity_162o, (List.forall_mem_cons.mpr ⟨s_r0 mk_143 dX11_checkSeer_23, (fun _ h => absurd h List.not_mem_nil)⟩)⟩)⟩)⟩)⟩)⟩)⟩)⟩)⟩)
theorem km_143 : ∀ t ∈ tm_143, s_tok 143 t := (List.forall_mem_cons.mpr ⟨s_lift mk_143 kb_143_0, (fun _ h => absurd h List.not_mem_nil)⟩)
theorem dX11_checkWay_0 : decode cX11_checkWay 0 = .ok (.aload_n 0, 1) := by decide +kernel
theorem dX11_checkWay_1 : decode cX11_checkWay 1 = .ok (.iload_n 1, 1) := by decide +kernel
theorem dX11_checkWay_2 : decode cX11_checkWay 2 = .ok (.invokevirtual 128, 3) := by decide +kernel
theorem dX11_checkWay_5 : decode cX11_checkWay 5 = .ok (.aload_n 0, 1) := by decide +kernel
theorem dX11_checkWay_6 : decode cX11_checkWay 6 = .ok (.iload_n 2, 1) := by decide +kernel
theorem dX11_checkWay_7 : decode cX11_checkWay 7 = .ok (.invokevirtual 128, 3) := by decide +kernel
theorem dX11_checkWay_10 : decode cX11_checkWay 10 = .ok (.iload_n 3, 1) := by decide +kernel
theorem dX11_checkWay_11 : decode cX11_checkWay 11 = .ok (.invokestatic 176, 3) := by decide +kernel
theorem dX11_checkWay_14 : decode cX11_checkWay 14 = .ok (.return_, 1) := by decide +kernel
set_option maxRecDepth 20000 in
theorem kb_144_0 : ∀ q ∈ tb_144_0, s_atx 144 yX11_checkWay cX11_checkWay q.1 q.2 := (List.forall_mem_cons.mpr ⟨⟨s_ldAn dX11_checkWay_0 rfl, s_mo_ldA _ _⟩, (List.forall_mem_cons.mpr ⟨⟨s_ldIn dX11_checkWay_1 rfl, s_mo_ldI _ _⟩, (List.forall_mem_cons.mpr ⟨⟨s_sV mk_144 mk_142 ok_142 (by decide +kernel) dX11_checkWay_2 w_762 w_764 wp_9 (Or.inr ⟨7, _, _, rfl, rfl⟩), s_h0 mk_144⟩, (List.forall_mem_cons.mpr ⟨⟨s_ldAn dX11_checkWay_5 rfl, s_mo_ldA _ _⟩, (List.forall_mem_cons.mpr ⟨⟨s_ldIn dX11_checkWay_6 rfl, s_mo_ldI _ _⟩, (List.forall_mem_cons.mpr ⟨⟨s_sV mk_144 mk_142 ok_142 (by decide +kernel) dX11_checkWay_7 w_762 w_764 wp_9 (Or.inr ⟨7, _, _, rfl, rfl⟩), s_h0 mk_144⟩, (List.forall_mem_cons.mpr ⟨⟨s_ldIn dX11_checkWay_10 rfl, s_mo_ldI _ _⟩, (List.forall_mem_cons.mpr ⟨⟨s_sS mk_144 mk_145 ok_145 (by decide +kernel) dX11_checkWay_11 w_837 w_838, s_h0 mk_144⟩, (List.forall_mem_cons.mpr ⟨s_r0 mk_144 dX11_checkWay_14, (fun _ h => absurd h List.not_mem_nil)⟩)⟩)⟩)⟩)⟩)⟩)⟩)⟩)⟩)
theorem km_144 : ∀ t ∈ tm_144, s_tok 144 t := (List.forall_mem_cons.mpr ⟨s_lift mk_144 kb_144_0, (fun _ h => absurd h List.not_mem_nil)⟩)
theorem dX11_checkHour_0 : decode cX11_checkHour 0 = .ok (.iload_n 0, 1) := by decide +kernel
theorem dX11_checkHour_1 : decode cX11_checkHour 1 = .ok (.ifCond .lt 9, 3) := by decide +kernel
theorem dX11_checkHour_4 : decode cX11_checkHour 4 = .ok (.iload_n 0, 1) := by decide +kernel
theorem dX11_checkHour_5 : decode cX11_checkHour 5 = .ok (.bipush 24, 2) := by decide +kernel
theorem dX11_checkHour_7 : decode cX11_checkHour 7 = .ok (.if_icmp .lt 11, 3) := by decide +kernel
theorem dX11_checkHour_10 : decode cX11_checkHour 10 = .ok (.new 160, 3) := by decide +kernel
theorem dX11_checkHour_13 : decode cX11_checkHour 13 = .ok (.dup, 1) := by decide +kernel
theorem dX11_checkHour_14 : decode cX11_checkHour 14 = .ok (.invokespecial 162, 3) := by decide +kernel
theorem dX11_checkHour_17 : decode cX11_checkHour 17 = .ok (.athrow, 1) := by decide +kernel
theorem dX11_checkHour_18 : decode cX11_checkHour 18 = .ok (.return_, 1) := by decide +kernel
set_option maxRecDepth 20000 in
theorem kb_145_0 : ∀ q ∈ tb_145_0, s_atx 145 yX11_checkHour cX11_checkHour q.1 q.2 := (List.forall_mem_cons.mpr ⟨⟨s_ldIn dX11_checkHour_0 rfl, s_mo_ldI _ _⟩, (List.forall_mem_cons.mpr ⟨⟨s_iflt dX11_checkHour_1 (by decide), s_mo_iflt _ _⟩, (List.forall_mem_cons.mpr ⟨⟨s_ldIn dX11_checkHour_4 rfl, s_mo_ldI _ _⟩, (List.forall_mem_cons.mpr ⟨⟨s_bipush dX11_checkHour_5 (by decide +kernel), s_mo_push _ _⟩, (List.forall_mem_cons.mpr ⟨⟨s_iclt dX11_checkHour_7 (by decide), s_mo_iclt _ _⟩, (List.forall_mem_cons.mpr ⟨s_t mk_145 dX11_checkHour_10 dX11_checkHour_13 dX11_checkHour_14 dX11_checkHour_17 (by decide +kernel) w_766 w_22 x_GlassCity_162g x_GlassCity_162b x_GlassCity_162o, (List.forall_mem_cons.mpr ⟨s_r0 mk_145 dX11_checkHour_18, (fun _ h => absurd h List.not_mem_nil)⟩)⟩)⟩)⟩)⟩)⟩)⟩)
theorem km_145 : ∀ t ∈ tm_145, s_tok 145 t := (List.forall_mem_cons.mpr ⟨s_lift mk_145 kb_145_0, (fun _ h => absurd h List.not_mem_nil)⟩)
theorem dX11_checkOwner_0 : decode cX11_checkOwner 0 = .ok (.iload_n 0, 1) := by decide +kernel
theorem dX11_checkOwner_1 : decode cX11_checkOwner 1 = .ok (.ifCond .lt 9, 3) := by decide +kernel
theorem dX11_checkOwner_4 : decode cX11_checkOwner 4 = .ok (.iload_n 0, 1) := by decide +kernel
theorem dX11_checkOwner_5 : decode cX11_checkOwner 5 = .ok (.bipush 8, 2) := by decide +kernel
theorem dX11_checkOwner_7 : decode cX11_checkOwner 7 = .ok (.if_icmp .lt 11, 3) := by decide +kernel
theorem dX11_checkOwner_10 : decode cX11_checkOwner 10 = .ok (.new 160, 3) := by decide +kernel
theorem dX11_checkOwner_13 : decode cX11_checkOwner 13 = .ok (.dup, 1) := by decide +kernel
theorem dX11_checkOwner_14 : decode cX11_checkOwner 14 = .ok (.invokespecial 162, 3) := by decide +kernel
theorem dX11_checkOwner_17 : decode cX11_checkOwner 17 = .ok (.athrow, 1) := by decide +kernel
theorem dX11_checkOwner_18 : decode cX11_checkOwner 18 = .ok (.return_, 1) := by decide +kernel
set_option maxRecDepth 20000 in
theorem kb_146_0 : ∀ q ∈ tb_146_0, s_atx 146 yX11_checkOwner cX11_checkOwner q.1 q.2 := (List.forall_mem_cons.mpr ⟨⟨s_ldIn dX11_checkOwner_0 rfl, s_mo_ldI _ _⟩, (List.forall_mem_cons.mpr ⟨⟨s_iflt dX11_checkOwner_1 (by decide), s_mo_iflt _ _⟩, (List.forall_mem_cons.mpr ⟨⟨s_ldIn dX11_checkOwner_4 rfl, s_mo_ldI _ _⟩, (List.forall_mem_cons.mpr ⟨⟨s_bipush dX11_checkOwner_5 (by decide +kernel), s_mo_push _ _⟩, (List.forall_mem_cons.mpr ⟨⟨s_iclt dX11_checkOwner_7 (by decide), s_mo_iclt _ _⟩, (List.forall_mem_cons.mpr ⟨s_t mk_146 dX11_checkOwner_10 dX11_checkOwner_13 dX11_checkOwner_14 dX11_checkOwner_17 (by decide +kernel) w_766 w_22 x_GlassCity_162g x_GlassCity_162b x_GlassCity_162o, (List.forall_mem_cons.mpr ⟨s_r0 mk_146 dX11_checkOwner_18, (fun _ h => absurd h List.not_mem_nil)⟩)⟩)⟩)⟩)⟩)⟩)⟩)
theorem km_146 : ∀ t ∈ tm_146, s_tok 146 t := (List.forall_mem_cons.mpr ⟨s_lift mk_146 kb_146_0, (fun _ h => absurd h List.not_mem_nil)⟩)
theorem dX11_checkWithin_0 : decode cX11_checkWithin 0 = .ok (.iload_n 0, 1) := by decide +kernel
theorem dX11_checkWithin_1 : decode cX11_checkWithin 1 = .ok (.iload_n 1, 1) := by decide +kernel
theorem dX11_checkWithin_2 : decode cX11_checkWithin 2 = .ok (.if_icmp .lt 8, 3) := by decide +kernel
theorem dX11_checkWithin_5 : decode cX11_checkWithin 5 = .ok (.iload_n 0, 1) := by decide +kernel
theorem dX11_checkWithin_6 : decode cX11_checkWithin 6 = .ok (.iload_n 2, 1) := by decide +kernel
theorem dX11_checkWithin_7 : decode cX11_checkWithin 7 = .ok (.if_icmp .le 11, 3) := by decide +kernel
theorem dX11_checkWithin_10 : decode cX11_checkWithin 10 = .ok (.new 110, 3) := by decide +kernel
theorem dX11_checkWithin_13 : decode cX11_checkWithin 13 = .ok (.dup, 1) := by decide +kernel
theorem dX11_checkWithin_14 : decode cX11_checkWithin 14 = .ok (.invokespecial 112, 3) := by decide +kernel
theorem dX11_checkWithin_17 : decode cX11_checkWithin 17 = .ok (.athrow, 1) := by decide +kernel
theorem dX11_checkWithin_18 : decode cX11_checkWithin 18 = .ok (.return_, 1) := by decide +kernel
set_option maxRecDepth 20000 in
theorem kb_147_0 : ∀ q ∈ tb_147_0, s_atx 147 yX11_checkWithin cX11_checkWithin q.1 q.2 := (List.forall_mem_cons.mpr ⟨⟨s_ldIn dX11_checkWithin_0 rfl, s_mo_ldI _ _⟩, (List.forall_mem_cons.mpr ⟨⟨s_ldIn dX11_checkWithin_1 rfl, s_mo_ldI _ _⟩, (List.forall_mem_cons.mpr ⟨⟨s_iclt dX11_checkWithin_2 (by decide), s_mo_iclt _ _⟩, (List.forall_mem_cons.mpr ⟨⟨s_ldIn dX11_checkWithin_5 rfl, s_mo_ldI _ _⟩, (List.forall_mem_cons.mpr ⟨⟨s_ldIn dX11_checkWithin_6 rfl, s_mo_ldI _ _⟩, (List.forall_mem_cons.mpr ⟨⟨s_icle dX11_checkWithin_7 (by decide), s_mo_icle _ _⟩, (List.forall_mem_cons.mpr ⟨s_t mk_147 dX11_checkWithin_10 dX11_checkWithin_13 dX11_checkWithin_14 dX11_checkWithin_17 (by decide +kernel) w_620 w_20 x_GlassCity_112g x_GlassCity_112b x_GlassCity_112o, (List.forall_mem_cons.mpr ⟨s_r0 mk_147 dX11_checkWithin_18, (fun _ h => absurd h List.not_mem_nil)⟩)⟩)⟩)⟩)⟩)⟩)⟩)⟩)
theorem km_147 : ∀ t ∈ tm_147, s_tok 147 t := (List.forall_mem_cons.mpr ⟨s_lift mk_147 kb_147_0, (fun _ h => absurd h List.not_mem_nil)⟩)
theorem dX12_thrown_0 : decode cX12_thrown 0 = .ok (.aload_n 0, 1) := by decide +kernel
theorem dX12_thrown_1 : decode cX12_thrown 1 = .ok (.getfield 3, 3) := by decide +kernel
theorem dX12_thrown_4 : decode cX12_thrown 4 = .ok (.ireturn, 1) := by decide +kernel
set_option maxRecDepth 20000 in
theorem kb_148_0 : ∀ q ∈ tb_148_0, s_atx 148 yX12_thrown cX12_thrown q.1 q.2 := (List.forall_mem_cons.mpr ⟨⟨s_ldAn dX12_thrown_0 rfl, s_mo_ldA _ _⟩, (List.forall_mem_cons.mpr ⟨⟨s_getf (ci := 8) (k := 0) rfl (by decide) inX12 w_1221 dX12_thrown_1, s_mo_getf _ _ _⟩, (List.forall_mem_cons.mpr ⟨s_r1 mk_148 dX12_thrown_4, (fun _ h => absurd h List.not_mem_nil)⟩)⟩)⟩)
theorem km_148 : ∀ t ∈ tm_148, s_tok 148 t := (List.forall_mem_cons.mpr ⟨s_lift mk_148 kb_148_0, (fun _ h => absurd h List.not_mem_nil)⟩)
theorem dX12_throwsIf_0 : decode cX12_throwsIf 0 = .ok (.iload_n 1, 1) := by decide +kernel
theorem dX12_throwsIf_1 : decode cX12_throwsIf 1 = .ok (.ifCond .eq 8, 3) := by decide +kernel
theorem dX12_throwsIf_4 : decode cX12_throwsIf 4 = .ok (.aload_n 0, 1) := by decide +kernel
theorem dX12_throwsIf_5 : decode cX12_throwsIf 5 = .ok (.iload_n 2, 1) := by decide +kernel
theorem dX12_throwsIf_6 : decode cX12_throwsIf 6 = .ok (.putfield 3, 3) := by decide +kernel
theorem dX12_throwsIf_9 : decode cX12_throwsIf 9 = .ok (.iload_n 1, 1) := by decide +kernel
theorem dX12_throwsIf_10 : decode cX12_throwsIf 10 = .ok (.ireturn, 1) := by decide +kernel
set_option maxRecDepth 20000 in
theorem kb_149_0 : ∀ q ∈ tb_149_0, s_atx 149 yX12_throwsIf cX12_throwsIf q.1 q.2 := (List.forall_mem_cons.mpr ⟨⟨s_ldIn dX12_throwsIf_0 rfl, s_mo_ldI _ _⟩, (List.forall_mem_cons.mpr ⟨⟨s_ifeq dX12_throwsIf_1 (by decide), s_mo_ifeq _ _⟩, (List.forall_mem_cons.mpr ⟨⟨s_ldAn dX12_throwsIf_4 rfl, s_mo_ldA _ _⟩, (List.forall_mem_cons.mpr ⟨⟨s_ldIn dX12_throwsIf_5 rfl, s_mo_ldI _ _⟩, (List.forall_mem_cons.mpr ⟨⟨s_putI (ci := 8) (k := 0) rfl (by decide) inX12 tyX12_ok nmX12 rfl rfl w_1221 dX12_throwsIf_6, s_mo_putI _ _ _⟩, (List.forall_mem_cons.mpr ⟨⟨s_ldIn dX12_throwsIf_9 rfl, s_mo_ldI _ _⟩, (List.forall_mem_cons.mpr ⟨s_r2 mk_149 dX12_throwsIf_10, (fun _ h => absurd h List.not_mem_nil)⟩)⟩)⟩)⟩)⟩)⟩)⟩)
theorem km_149 : ∀ t ∈ tm_149, s_tok 149 t := (List.forall_mem_cons.mpr ⟨s_lift mk_149 kb_149_0, (fun _ h => absurd h List.not_mem_nil)⟩)
theorem dX12_in_0 : decode cX12_in 0 = .ok (.iload_n 0, 1) := by decide +kernel
theorem dX12_in_1 : decode cX12_in 1 = .ok (.iload_n 1, 1) := by decide +kernel
theorem dX12_in_2 : decode cX12_in 2 = .ok (.if_icmp .lt 12, 3) := by decide +kernel
theorem dX12_in_5 : decode cX12_in 5 = .ok (.iload_n 0, 1) := by decide +kernel
theorem dX12_in_6 : decode cX12_in 6 = .ok (.iload_n 2, 1) := by decide +kernel
theorem dX12_in_7 : decode cX12_in 7 = .ok (.if_icmp .gt 7, 3) := by decide +kernel
theorem dX12_in_10 : decode cX12_in 10 = .ok (.iconst 1, 1) := by decide +kernel
theorem dX12_in_11 : decode cX12_in 11 = .ok (.goto 4, 3) := by decide +kernel
theorem dX12_in_14 : decode cX12_in 14 = .ok (.iconst 0, 1) := by decide +kernel
theorem dX12_in_15 : decode cX12_in 15 = .ok (.ireturn, 1) := by decide +kernel
set_option maxRecDepth 20000 in
theorem kb_150_0 : ∀ q ∈ tb_150_0, s_atx 150 yX12_in cX12_in q.1 q.2 := (List.forall_mem_cons.mpr ⟨⟨s_ldIn dX12_in_0 rfl, s_mo_ldI _ _⟩, (List.forall_mem_cons.mpr ⟨⟨s_ldIn dX12_in_1 rfl, s_mo_ldI _ _⟩, (List.forall_mem_cons.mpr ⟨⟨s_iclt dX12_in_2 (by decide), s_mo_iclt _ _⟩, (List.forall_mem_cons.mpr ⟨⟨s_ldIn dX12_in_5 rfl, s_mo_ldI _ _⟩, (List.forall_mem_cons.mpr ⟨⟨s_ldIn dX12_in_6 rfl, s_mo_ldI _ _⟩, (List.forall_mem_cons.mpr ⟨⟨s_icgt dX12_in_7 (by decide), s_mo_icgt _ _⟩, (List.forall_mem_cons.mpr ⟨⟨s_iconst dX12_in_10 (by decide +kernel), s_mo_push _ _⟩, (List.forall_mem_cons.mpr ⟨⟨s_goto dX12_in_11 (by decide), s_mo_goto _⟩, (List.forall_mem_cons.mpr ⟨⟨s_iconst dX12_in_14 (by decide +kernel), s_mo_push _ _⟩, (List.forall_mem_cons.mpr ⟨s_r2 mk_150 dX12_in_15, (fun _ h => absurd h List.not_mem_nil)⟩)⟩)⟩)⟩)⟩)⟩)⟩)⟩)⟩)⟩)
theorem km_150 : ∀ t ∈ tm_150, s_tok 150 t := (List.forall_mem_cons.mpr ⟨s_lift mk_150 kb_150_0, (fun _ h => absurd h List.not_mem_nil)⟩)
theorem dX12_init_0 : decode cX12_init 0 = .ok (.aload_n 0, 1) := by decide +kernel
theorem dX12_init_1 : decode cX12_init 1 = .ok (.invokespecial 7, 3) := by decide +kernel
theorem dX12_init_4 : decode cX12_init 4 = .ok (.aload_n 0, 1) := by decide +kernel
theorem dX12_init_5 : decode cX12_init 5 = .ok (.sipush 2101, 3) := by decide +kernel
theorem dX12_init_8 : decode cX12_init 8 = .ok (.newarray .int, 2) := by decide +kernel
theorem dX12_init_10 : decode cX12_init 10 = .ok (.putfield 13, 3) := by decide +kernel
theorem dX12_init_13 : decode cX12_init 13 = .ok (.aload_n 0, 1) := by decide +kernel
theorem dX12_init_14 : decode cX12_init 14 = .ok (.sipush 1264, 3) := by decide +kernel
theorem dX12_init_17 : decode cX12_init 17 = .ok (.newarray .int, 2) := by decide +kernel
theorem dX12_init_19 : decode cX12_init 19 = .ok (.putfield 17, 3) := by decide +kernel
theorem dX12_init_22 : decode cX12_init 22 = .ok (.aload_n 0, 1) := by decide +kernel
theorem dX12_init_23 : decode cX12_init 23 = .ok (.sipush 1264, 3) := by decide +kernel
theorem dX12_init_26 : decode cX12_init 26 = .ok (.newarray .int, 2) := by decide +kernel
theorem dX12_init_28 : decode cX12_init 28 = .ok (.putfield 20, 3) := by decide +kernel
theorem dX12_init_31 : decode cX12_init 31 = .ok (.aload_n 0, 1) := by decide +kernel
theorem dX12_init_32 : decode cX12_init 32 = .ok (.sipush 2160, 3) := by decide +kernel
theorem dX12_init_35 : decode cX12_init 35 = .ok (.newarray .int, 2) := by decide +kernel
theorem dX12_init_37 : decode cX12_init 37 = .ok (.putfield 23, 3) := by decide +kernel
theorem dX12_init_40 : decode cX12_init 40 = .ok (.aload_n 0, 1) := by decide +kernel
theorem dX12_init_41 : decode cX12_init 41 = .ok (.sipush 400, 3) := by decide +kernel
theorem dX12_init_44 : decode cX12_init 44 = .ok (.newarray .byte, 2) := by decide +kernel
theorem dX12_init_46 : decode cX12_init 46 = .ok (.putfield 26, 3) := by decide +kernel
theorem dX12_init_49 : decode cX12_init 49 = .ok (.aload_n 0, 1) := by decide +kernel
theorem dX12_init_50 : decode cX12_init 50 = .ok (.iconst (-1), 1) := by decide +kernel
theorem dX12_init_51 : decode cX12_init 51 = .ok (.putfield 30, 3) := by decide +kernel
theorem dX12_init_54 : decode cX12_init 54 = .ok (.aload_n 0, 1) := by decide +kernel
theorem dX12_init_55 : decode cX12_init 55 = .ok (.iconst 5, 1) := by decide +kernel
theorem dX12_init_56 : decode cX12_init 56 = .ok (.newarray .int, 2) := by decide +kernel
theorem dX12_init_58 : decode cX12_init 58 = .ok (.putfield 33, 3) := by decide +kernel
theorem dX12_init_61 : decode cX12_init 61 = .ok (.aload_n 0, 1) := by decide +kernel
theorem dX12_init_62 : decode cX12_init 62 = .ok (.sipush 400, 3) := by decide +kernel
theorem dX12_init_65 : decode cX12_init 65 = .ok (.newarray .int, 2) := by decide +kernel
theorem dX12_init_67 : decode cX12_init 67 = .ok (.putfield 36, 3) := by decide +kernel
theorem dX12_init_70 : decode cX12_init 70 = .ok (.aload_n 0, 1) := by decide +kernel
theorem dX12_init_71 : decode cX12_init 71 = .ok (.bipush 6, 2) := by decide +kernel
theorem dX12_init_73 : decode cX12_init 73 = .ok (.newarray .int, 2) := by decide +kernel
theorem dX12_init_75 : decode cX12_init 75 = .ok (.putfield 39, 3) := by decide +kernel
theorem dX12_init_78 : decode cX12_init 78 = .ok (.aload_n 0, 1) := by decide +kernel
theorem dX12_init_79 : decode cX12_init 79 = .ok (.bipush 64, 2) := by decide +kernel
theorem dX12_init_81 : decode cX12_init 81 = .ok (.newarray .int, 2) := by decide +kernel
theorem dX12_init_83 : decode cX12_init 83 = .ok (.putfield 42, 3) := by decide +kernel
theorem dX12_init_86 : decode cX12_init 86 = .ok (.aload_n 0, 1) := by decide +kernel
theorem dX12_init_87 : decode cX12_init 87 = .ok (.bipush 8, 2) := by decide +kernel
theorem dX12_init_89 : decode cX12_init 89 = .ok (.newarray .int, 2) := by decide +kernel
theorem dX12_init_91 : decode cX12_init 91 = .ok (.putfield 45, 3) := by decide +kernel
theorem dX12_init_94 : decode cX12_init 94 = .ok (.aload_n 0, 1) := by decide +kernel
theorem dX12_init_95 : decode cX12_init 95 = .ok (.bipush 49, 2) := by decide +kernel
theorem dX12_init_97 : decode cX12_init 97 = .ok (.newarray .int, 2) := by decide +kernel
theorem dX12_init_99 : decode cX12_init 99 = .ok (.putfield 48, 3) := by decide +kernel
theorem dX12_init_102 : decode cX12_init 102 = .ok (.aload_n 0, 1) := by decide +kernel
theorem dX12_init_103 : decode cX12_init 103 = .ok (.bipush 49, 2) := by decide +kernel
theorem dX12_init_105 : decode cX12_init 105 = .ok (.newarray .int, 2) := by decide +kernel
theorem dX12_init_107 : decode cX12_init 107 = .ok (.putfield 51, 3) := by decide +kernel
theorem dX12_init_110 : decode cX12_init 110 = .ok (.aload_n 0, 1) := by decide +kernel
theorem dX12_init_111 : decode cX12_init 111 = .ok (.bipush 31, 2) := by decide +kernel
theorem dX12_init_113 : decode cX12_init 113 = .ok (.newarray .int, 2) := by decide +kernel
theorem dX12_init_115 : decode cX12_init 115 = .ok (.putfield 54, 3) := by decide +kernel
theorem dX12_init_118 : decode cX12_init 118 = .ok (.aload_n 0, 1) := by decide +kernel
theorem dX12_init_119 : decode cX12_init 119 = .ok (.bipush 30, 2) := by decide +kernel
theorem dX12_init_121 : decode cX12_init 121 = .ok (.newarray .int, 2) := by decide +kernel
theorem dX12_init_123 : decode cX12_init 123 = .ok (.putfield 57, 3) := by decide +kernel
theorem dX12_init_126 : decode cX12_init 126 = .ok (.aload_n 0, 1) := by decide +kernel
theorem dX12_init_127 : decode cX12_init 127 = .ok (.bipush 30, 2) := by decide +kernel
theorem dX12_init_129 : decode cX12_init 129 = .ok (.newarray .int, 2) := by decide +kernel
theorem dX12_init_131 : decode cX12_init 131 = .ok (.putfield 60, 3) := by decide +kernel
theorem dX12_init_134 : decode cX12_init 134 = .ok (.aload_n 0, 1) := by decide +kernel
theorem dX12_init_135 : decode cX12_init 135 = .ok (.iconst 3, 1) := by decide +kernel
theorem dX12_init_136 : decode cX12_init 136 = .ok (.newarray .int, 2) := by decide +kernel
theorem dX12_init_138 : decode cX12_init 138 = .ok (.putfield 63, 3) := by decide +kernel
theorem dX12_init_141 : decode cX12_init 141 = .ok (.aload_n 0, 1) := by decide +kernel
theorem dX12_init_142 : decode cX12_init 142 = .ok (.getfield 13, 3) := by decide +kernel
theorem dX12_init_145 : decode cX12_init 145 = .ok (.bipush 6, 2) := by decide +kernel
theorem dX12_init_147 : decode cX12_init 147 = .ok (.bipush 10, 2) := by decide +kernel
theorem dX12_init_149 : decode cX12_init 149 = .ok (.iastore, 1) := by decide +kernel
theorem dX12_init_150 : decode cX12_init 150 = .ok (.aload_n 0, 1) := by decide +kernel
theorem dX12_init_151 : decode cX12_init 151 = .ok (.getfield 13, 3) := by decide +kernel
theorem dX12_init_154 : decode cX12_init 154 = .ok (.iconst 0, 1) := by decide +kernel
theorem dX12_init_155 : decode cX12_init 155 = .ok (.iconst 3, 1) := by decide +kernel
theorem dX12_init_156 : decode cX12_init 156 = .ok (.iastore, 1) := by decide +kernel
theorem dX12_init_157 : decode cX12_init 157 = .ok (.aload_n 0, 1) := by decide +kernel
theorem dX12_init_158 : decode cX12_init 158 = .ok (.getfield 13, 3) := by decide +kernel
theorem dX12_init_161 : decode cX12_init 161 = .ok (.iconst 1, 1) := by decide +kernel
theorem dX12_init_162 : decode cX12_init 162 = .ok (.iconst 3, 1) := by decide +kernel
theorem dX12_init_163 : decode cX12_init 163 = .ok (.iastore, 1) := by decide +kernel
theorem dX12_init_164 : decode cX12_init 164 = .ok (.aload_n 0, 1) := by decide +kernel
theorem dX12_init_165 : decode cX12_init 165 = .ok (.invokevirtual 66, 3) := by decide +kernel
theorem dX12_init_168 : decode cX12_init 168 = .ok (.return_, 1) := by decide +kernel
set_option maxRecDepth 20000 in
theorem kb_151_0 : ∀ q ∈ tb_151_0, s_atx 151 yX12_init cX12_init q.1 q.2 := (List.forall_mem_cons.mpr ⟨⟨s_ldAn dX12_init_0 rfl, s_mo_ldA _ _⟩, (List.forall_mem_cons.mpr ⟨⟨s_oinit w_1212 w_oi w_oc dX12_init_1, s_mo_oinit _⟩, (List.forall_mem_cons.mpr ⟨⟨s_ldAn dX12_init_4 rfl, s_mo_ldA _ _⟩, (List.forall_mem_cons.mpr ⟨⟨s_sipush dX12_init_5 (by decide +kernel), s_mo_push _ _⟩, (List.forall_mem_cons.mpr ⟨⟨s_newa (t := 0) (aty := .int) (ty := .int) (by decide) rfl (fun _ => rfl) (fun _ _ h => h) (by decide) (fun _ _ => ⟨_, rfl, rfl⟩) w_arr0 dX12_init_8, s_mo_newa _ _⟩, (List.forall_mem_cons.mpr ⟨⟨s_putAF (ci := 8) (k := 1) rfl (by decide) inX12 tyX12_ok nmX12 rfl rfl rfl (fun _ => rfl) (fun _ => rfl) w_1222 dX12_init_10, s_mo_putA _ _ _⟩, (List.forall_mem_cons.mpr ⟨⟨s_ldAn dX12_init_13 rfl, s_mo_ldA _ _⟩, (List.forall_mem_cons.mpr ⟨⟨s_sipush dX12_init_14 (by decide +kernel), s_mo_push _ _⟩, (List.forall_mem_cons.mpr ⟨⟨s_newa (t := 0) (aty := .int) (ty := .int) (by decide) rfl (fun _ => rfl) (fun _ _ h => h) (by decide) (fun _ _ => ⟨_, rfl, rfl⟩) w_arr0 dX12_init_17, s_mo_newa _ _⟩, (List.forall_mem_cons.mpr ⟨⟨s_putAF (ci := 8) (k := 2) rfl (by decide) inX12 tyX12_ok nmX12 rfl rfl rfl (fun _ => rfl) (fun _ => rfl) w_1223 dX12_init_19, s_mo_putA _ _ _⟩, (List.forall_mem_cons.mpr ⟨⟨s_ldAn dX12_init_22 rfl, s_mo_ldA _ _⟩, (List.forall_mem_cons.mpr ⟨⟨s_sipush dX12_init_23 (by decide +kernel), s_mo_push _ _⟩, (List.forall_mem_cons.mpr ⟨⟨s_newa (t := 0) (aty := .int) (ty := .int) (by decide) rfl (fun _ => rfl) (fun _ _ h => h) (by decide) (fun _ _ => ⟨_, rfl, rfl⟩) w_arr0 dX12_init_26, s_mo_newa _ _⟩, (List.forall_mem_cons.mpr ⟨⟨s_putAF (ci := 8) (k := 3) rfl (by decide) inX12 tyX12_ok nmX12 rfl rfl rfl (fun _ => rfl) (fun _ => rfl) w_1224 dX12_init_28, s_mo_putA _ _ _⟩, (List.forall_mem_cons.mpr ⟨⟨s_ldAn dX12_init_31 rfl, s_mo_ldA _ _⟩, (List.forall_mem_cons.mpr ⟨⟨s_sipush dX12_init_32 (by decide +kernel), s_mo_push _ _⟩, (List.forall_mem_cons.mpr ⟨⟨s_newa (t := 0) (aty := .int) (ty := .int) (by decide) rfl (fun _ => rfl) (fun _ _ h => h) (by decide) (fun _ _ => ⟨_, rfl, rfl⟩) w_arr0 dX12_init_35, s_mo_newa _ _⟩, (List.forall_mem_cons.mpr ⟨⟨s_putAF (ci := 8) (k := 5) rfl (by decide) inX12 tyX12_ok nmX12 rfl rfl rfl (fun _ => rfl) (fun _ => rfl) w_1226 dX12_init_37, s_mo_putA _ _ _⟩, (List.forall_mem_cons.mpr ⟨⟨s_ldAn dX12_init_40 rfl, s_mo_ldA _ _⟩, (List.forall_mem_cons.mpr ⟨⟨s_sipush dX12_init_41 (by decide +kernel), s_mo_push _ _⟩, (List.forall_mem_cons.mpr ⟨⟨s_newa (t := 1) (aty := .byte) (ty := .byte) (by decide) rfl (fun _ => rfl) (fun _ _ h => h) (by decide) (fun _ _ => ⟨_, rfl, rfl⟩) w_arr1 dX12_init_44, s_mo_newa _ _⟩, (List.forall_mem_cons.mpr ⟨⟨s_putAF (ci := 8) (k := 7) rfl (by decide) inX12 tyX12_ok nmX12 rfl rfl rfl (fun _ => rfl) (fun _ => rfl) w_1228 dX12_init_46, s_mo_putA _ _ _⟩, (List.forall_mem_cons.mpr ⟨⟨s_ldAn dX12_init_49 rfl, s_mo_ldA _ _⟩, (List.forall_mem_cons.mpr ⟨⟨s_iconst dX12_init_50 (by decide +kernel), s_mo_push _ _⟩, (List.forall_mem_cons.mpr ⟨⟨s_putI (ci := 8) (k := 13) rfl (by decide) inX12 tyX12_ok nmX12 rfl rfl w_1234 dX12_init_51, s_mo_putI _ _ _⟩, (List.forall_mem_cons.mpr ⟨⟨s_ldAn dX12_init_54 rfl, s_mo_ldA _ _⟩, (List.forall_mem_cons.mpr ⟨⟨s_iconst dX12_init_55 (by decide +kernel), s_mo_push _ _⟩, (List.forall_mem_cons.mpr ⟨⟨s_newa (t := 0) (aty := .int) (ty := .int) (by decide) rfl (fun _ => rfl) (fun _ _ h => h) (by decide) (fun _ _ => ⟨_, rfl, rfl⟩) w_arr0 dX12_init_56, s_mo_newa _ _⟩, (List.forall_mem_cons.mpr ⟨⟨s_putAF (ci := 8) (k := 14) rfl (by decide) inX12 tyX12_ok nmX12 rfl rfl rfl (fun _ => rfl) (fun _ => rfl) w_1235 dX12_init_58, s_mo_putA _ _ _⟩, (List.forall_mem_cons.mpr ⟨⟨s_ldAn dX12_init_61 rfl, s_mo_ldA _ _⟩, (List.forall_mem_cons.mpr ⟨⟨s_sipush dX12_init_62 (by decide +kernel), s_mo_push _ _⟩, (fun _ h => absurd h List.not_mem_nil)⟩)⟩)⟩)⟩)⟩)⟩)⟩)⟩)⟩)⟩)⟩)⟩)⟩)⟩)⟩)⟩)⟩)⟩)⟩)⟩)⟩)⟩)⟩)⟩)⟩)⟩)⟩)⟩)⟩)⟩)⟩)
set_option maxRecDepth 20000 in
theorem kb_151_1 : ∀ q ∈ tb_151_1, s_atx 151 yX12_init cX12_init q.1 q.2 := (List.forall_mem_cons.mpr ⟨⟨s_newa (t := 0) (aty := .int) (ty := .int) (by decide) rfl (fun _ => rfl) (fun _ _ h => h) (by decide) (fun _ _ => ⟨_, rfl, rfl⟩) w_arr0 dX12_init_65, s_mo_newa _ _⟩, (List.forall_mem_cons.mpr ⟨⟨s_putAF (ci := 8) (k := 16) rfl (by decide) inX12 tyX12_ok nmX12 rfl rfl rfl (fun _ => rfl) (fun _ => rfl) w_1237 dX12_init_67, s_mo_putA _ _ _⟩, (List.forall_mem_cons.mpr ⟨⟨s_ldAn dX12_init_70 rfl, s_mo_ldA _ _⟩, (List.forall_mem_cons.mpr ⟨⟨s_bipush dX12_init_71 (by decide +kernel), s_mo_push _ _⟩, (List.forall_mem_cons.mpr ⟨⟨s_newa (t := 0) (aty := .int) (ty := .int) (by decide) rfl (fun _ => rfl) (fun _ _ h => h) (by decide) (fun _ _ => ⟨_, rfl, rfl⟩) w_arr0 dX12_init_73, s_mo_newa _ _⟩, (List.forall_mem_cons.mpr ⟨⟨s_putAF (ci := 8) (k := 17) rfl (by decide) inX12 tyX12_ok nmX12 rfl rfl rfl (fun _ => rfl) (fun _ => rfl) w_1238 dX12_init_75, s_mo_putA _ _ _⟩, (List.forall_mem_cons.mpr ⟨⟨s_ldAn dX12_init_78 rfl, s_mo_ldA _ _⟩, (List.forall_mem_cons.mpr ⟨⟨s_bipush dX12_init_79 (by decide +kernel), s_mo_push _ _⟩, (List.forall_mem_cons.mpr ⟨⟨s_newa (t := 0) (aty := .int) (ty := .int) (by decide) rfl (fun _ => rfl) (fun _ _ h => h) (by decide) (fun _ _ => ⟨_, rfl, rfl⟩) w_arr0 dX12_init_81, s_mo_newa _ _⟩, (List.forall_mem_cons.mpr ⟨⟨s_putAF (ci := 8) (k := 18) rfl (by decide) inX12 tyX12_ok nmX12 rfl rfl rfl (fun _ => rfl) (fun _ => rfl) w_1239 dX12_init_83, s_mo_putA _ _ _⟩, (List.forall_mem_cons.mpr ⟨⟨s_ldAn dX12_init_86 rfl, s_mo_ldA _ _⟩, (List.forall_mem_cons.mpr ⟨⟨s_bipush dX12_init_87 (by decide +kernel), s_mo_push _ _⟩, (List.forall_mem_cons.mpr ⟨⟨s_newa (t := 0) (aty := .int) (ty := .int) (by decide) rfl (fun _ => rfl) (fun _ _ h => h) (by decide) (fun _ _ => ⟨_, rfl, rfl⟩) w_arr0 dX12_init_89, s_mo_newa _ _⟩, (List.forall_mem_cons.mpr ⟨⟨s_putAF (ci := 8) (k := 20) rfl (by decide) inX12 tyX12_ok nmX12 rfl rfl rfl (fun _ => rfl) (fun _ => rfl) w_1241 dX12_init_91, s_mo_putA _ _ _⟩, (List.forall_mem_cons.mpr ⟨⟨s_ldAn dX12_init_94 rfl, s_mo_ldA _ _⟩, (List.forall_mem_cons.mpr ⟨⟨s_bipush dX12_init_95 (by decide +kernel), s_mo_push _ _⟩, (List.forall_mem_cons.mpr ⟨⟨s_newa (t := 0) (aty := .int) (ty := .int) (by decide) rfl (fun _ => rfl) (fun _ _ h => h) (by decide) (fun _ _ => ⟨_, rfl, rfl⟩) w_arr0 dX12_init_97, s_mo_newa _ _⟩, (List.forall_mem_cons.mpr ⟨⟨s_putAF (ci := 8) (k := 21) rfl (by decide) inX12 tyX12_ok nmX12 rfl rfl rfl (fun _ => rfl) (fun _ => rfl) w_1242 dX12_init_99, s_mo_putA _ _ _⟩, (List.forall_mem_cons.mpr ⟨⟨s_ldAn dX12_init_102 rfl, s_mo_ldA _ _⟩, (List.forall_mem_cons.mpr ⟨⟨s_bipush dX12_init_103 (by decide +kernel), s_mo_push _ _⟩, (List.forall_mem_cons.mpr ⟨⟨s_newa (t := 0) (aty := .int) (ty := .int) (by decide) rfl (fun _ => rfl) (fun _ _ h => h) (by decide) (fun _ _ => ⟨_, rfl, rfl⟩) w_arr0 dX12_init_105, s_mo_newa _ _⟩, (List.forall_mem_cons.mpr ⟨⟨s_putAF (ci := 8) (k := 22) rfl (by decide) inX12 tyX12_ok nmX12 rfl rfl rfl (fun _ => rfl) (fun _ => rfl) w_1243 dX12_init_107, s_mo_putA _ _ _⟩, (List.forall_mem_cons.mpr ⟨⟨s_ldAn dX12_init_110 rfl, s_mo_ldA _ _⟩, (List.forall_mem_cons.mpr ⟨⟨s_bipush dX12_init_111 (by decide +kernel), s_mo_push _ _⟩, (List.forall_mem_cons.mpr ⟨⟨s_newa (t := 0) (aty := .int) (ty := .int) (by decide) rfl (fun _ => rfl) (fun _ _ h => h) (by decide) (fun _ _ => ⟨_, rfl, rfl⟩) w_arr0 dX12_init_113, s_mo_newa _ _⟩, (List.forall_mem_cons.mpr ⟨⟨s_putAF (ci := 8) (k := 23) rfl (by decide) inX12 tyX12_ok nmX12 rfl rfl rfl (fun _ => rfl) (fun _ => rfl) w_1244 dX12_init_115, s_mo_putA _ _ _⟩, (List.forall_mem_cons.mpr ⟨⟨s_ldAn dX12_init_118 rfl, s_mo_ldA _ _⟩, (List.forall_mem_cons.mpr ⟨⟨s_bipush dX12_init_119 (by decide +kernel), s_mo_push _ _⟩, (List.forall_mem_cons.mpr ⟨⟨s_newa (t := 0) (aty := .int) (ty := .int) (by decide) rfl (fun _ => rfl) (fun _ _ h => h) (by decide) (fun _ _ => ⟨_, rfl, rfl⟩) w_arr0 dX12_init_121, s_mo_newa _ _⟩, (List.forall_mem_cons.mpr ⟨⟨s_putAF (ci := 8) (k := 24) rfl (by decide) inX12 tyX12_ok nmX12 rfl rfl rfl (fun _ => rfl) (fun _ => rfl) w_1245 dX12_init_123, s_mo_putA _ _ _⟩, (List.forall_mem_cons.mpr ⟨⟨s_ldAn dX12_init_126 rfl, s_mo_ldA _ _⟩, (List.forall_mem_cons.mpr ⟨⟨s_bipush dX12_init_127 (by decide +kernel), s_mo_push _ _⟩, (fun _ h => absurd h List.not_mem_nil)⟩)⟩)⟩)⟩)⟩)⟩)⟩)⟩)⟩)⟩)⟩)⟩)⟩)⟩)⟩)⟩)⟩)⟩)⟩)⟩)⟩)⟩)⟩)⟩)⟩)⟩)⟩)⟩)⟩)⟩)⟩)⟩)
set_option maxRecDepth 20000 in
theorem kb_151_2 : ∀ q ∈ tb_151_2, s_atx 151 yX12_init cX12_init q.1 q.2 := (List.forall_mem_cons.mpr ⟨⟨s_newa (t := 0) (aty := .int) (ty := .int) (by decide) rfl (fun _ => rfl) (fun _ _ h => h) (by decide) (fun _ _ => ⟨_, rfl, rfl⟩) w_arr0 dX12_init_129, s_mo_newa _ _⟩, (List.forall_mem_cons.mpr ⟨⟨s_putAF (ci := 8) (k := 25) rfl (by decide) inX12 tyX12_ok nmX12 rfl rfl rfl (fun _ => rfl) (fun _ => rfl) w_1246 dX12_init_131, s_mo_putA _ _ _⟩, (List.forall_mem_cons.mpr ⟨⟨s_ldAn dX12_init_134 rfl, s_mo_ldA _ _⟩, (List.forall_mem_cons.mpr ⟨⟨s_iconst dX12_init_135 (by decide +kernel), s_mo_push _ _⟩, (List.forall_mem_cons.mpr ⟨⟨s_newa (t := 0) (aty := .int) (ty := .int) (by decide) rfl (fun _ => rfl) (fun _ _ h => h) (by decide) (fun _ _ => ⟨_, rfl, rfl⟩) w_arr0 dX12_init_136, s_mo_newa _ _⟩, (List.forall_mem_cons.mpr ⟨⟨s_putAF (ci := 8) (k := 26) rfl (by decide) inX12 tyX12_ok nmX12 rfl rfl rfl (fun _ => rfl) (fun _ => rfl) w_1247 dX12_init_138, s_mo_putA _ _ _⟩, (List.forall_mem_cons.mpr ⟨⟨s_ldAn dX12_init_141 rfl, s_mo_ldA _ _⟩, (List.forall_mem_cons.mpr ⟨⟨s_getf (ci := 8) (k := 1) rfl (by decide) inX12 w_1222 dX12_init_142, s_mo_getf _ _ _⟩, (List.forall_mem_cons.mpr ⟨⟨s_bipush dX12_init_145 (by decide +kernel), s_mo_push _ _⟩, (List.forall_mem_cons.mpr ⟨⟨s_bipush dX12_init_147 (by decide +kernel), s_mo_push _ _⟩, (List.forall_mem_cons.mpr ⟨⟨s_iast dX12_init_149, s_mo_iast _⟩, (List.forall_mem_cons.mpr ⟨⟨s_ldAn dX12_init_150 rfl, s_mo_ldA _ _⟩, (List.forall_mem_cons.mpr ⟨⟨s_getf (ci := 8) (k := 1) rfl (by decide) inX12 w_1222 dX12_init_151, s_mo_getf _ _ _⟩, (List.forall_mem_cons.mpr ⟨⟨s_iconst dX12_init_154 (by decide +kernel), s_mo_push _ _⟩, (List.forall_mem_cons.mpr ⟨⟨s_iconst dX12_init_155 (by decide +kernel), s_mo_push _ _⟩, (List.forall_mem_cons.mpr ⟨⟨s_iast dX12_init_156, s_mo_iast _⟩, (List.forall_mem_cons.mpr ⟨⟨s_ldAn dX12_init_157 rfl, s_mo_ldA _ _⟩, (List.forall_mem_cons.mpr ⟨⟨s_getf (ci := 8) (k := 1) rfl (by decide) inX12 w_1222 dX12_init_158, s_mo_getf _ _ _⟩, (List.forall_mem_cons.mpr ⟨⟨s_iconst dX12_init_161 (by decide +kernel), s_mo_push _ _⟩, (List.forall_mem_cons.mpr ⟨⟨s_iconst dX12_init_162 (by decide +kernel), s_mo_push _ _⟩, (List.forall_mem_cons.mpr ⟨⟨s_iast dX12_init_163, s_mo_iast _⟩, (List.forall_mem_cons.mpr ⟨⟨s_ldAn dX12_init_164 rfl, s_mo_ldA _ _⟩, (List.forall_mem_cons.mpr ⟨⟨s_sV mk_151 mk_152 ok_152 (by decide +kernel) dX12_init_165 w_1213 w_1215 wp_23 (Or.inr ⟨8, _, _, rfl, rfl⟩), s_h0 mk_151⟩, (List.forall_mem_cons.mpr ⟨s_r0 mk_151 dX12_init_168, (fun _ h => absurd h List.not_mem_nil)⟩)⟩)⟩)⟩)⟩)⟩)⟩)⟩)⟩)⟩)⟩)⟩)⟩)⟩)⟩)⟩)⟩)⟩)⟩)⟩)⟩)⟩)⟩)⟩)
theorem km_151 : ∀ t ∈ tm_151, s_tok 151 t := (List.forall_mem_cons.mpr ⟨s_lift mk_151 kb_151_0, (List.forall_mem_cons.mpr ⟨s_lift mk_151 kb_151_1, (List.forall_mem_cons.mpr ⟨s_lift mk_151 kb_151_2, (fun _ h => absurd h List.not_mem_nil)⟩)⟩)⟩)
theorem dX12_cleans_0 : decode cX12_cleans 0 = .ok (.bipush 7, 2) := by decide +kernel
theorem dX12_cleans_2 : decode cX12_cleans 2 = .ok (.istore_n 1, 1) := by decide +kernel
theorem dX12_cleans_3 : decode cX12_cleans 3 = .ok (.iload_n 1, 1) := by decide +kernel
theorem dX12_cleans_4 : decode cX12_cleans 4 = .ok (.sipush 427, 3) := by decide +kernel
theorem dX12_cleans_7 : decode cX12_cleans 7 = .ok (.if_icmp .ge 16, 3) := by decide +kernel
theorem dX12_cleans_10 : decode cX12_cleans 10 = .ok (.aload_n 0, 1) := by decide +kernel
theorem dX12_cleans_11 : decode cX12_cleans 11 = .ok (.getfield 13, 3) := by decide +kernel
theorem dX12_cleans_14 : decode cX12_cleans 14 = .ok (.iload_n 1, 1) := by decide +kernel
theorem dX12_cleans_15 : decode cX12_cleans 15 = .ok (.iconst 0, 1) := by decide +kernel
theorem dX12_cleans_16 : decode cX12_cleans 16 = .ok (.iastore, 1) := by decide +kernel
theorem dX12_cleans_17 : decode cX12_cleans 17 = .ok (.iinc 1 1, 3) := by decide +kernel
theorem dX12_cleans_20 : decode cX12_cleans 20 = .ok (.goto (-17), 3) := by decide +kernel
theorem dX12_cleans_23 : decode cX12_cleans 23 = .ok (.iconst 0, 1) := by decide +kernel
theorem dX12_cleans_24 : decode cX12_cleans 24 = .ok (.istore_n 1, 1) := by decide +kernel
theorem dX12_cleans_25 : decode cX12_cleans 25 = .ok (.iload_n 1, 1) := by decide +kernel
theorem dX12_cleans_26 : decode cX12_cleans 26 = .ok (.bipush 30, 2) := by decide +kernel
theorem dX12_cleans_28 : decode cX12_cleans 28 = .ok (.if_icmp .ge 24, 3) := by decide +kernel
theorem dX12_cleans_31 : decode cX12_cleans 31 = .ok (.aload_n 0, 1) := by decide +kernel
theorem dX12_cleans_32 : decode cX12_cleans 32 = .ok (.iload_n 1, 1) := by decide +kernel
theorem dX12_cleans_33 : decode cX12_cleans 33 = .ok (.iconst 0, 1) := by decide +kernel
theorem dX12_cleans_34 : decode cX12_cleans 34 = .ok (.iconst 4, 1) := by decide +kernel
theorem dX12_cleans_35 : decode cX12_cleans 35 = .ok (.invokevirtual 69, 3) := by decide +kernel
theorem dX12_cleans_38 : decode cX12_cleans 38 = .ok (.aload_n 0, 1) := by decide +kernel
theorem dX12_cleans_39 : decode cX12_cleans 39 = .ok (.iload_n 1, 1) := by decide +kernel
theorem dX12_cleans_40 : decode cX12_cleans 40 = .ok (.iconst 1, 1) := by decide +kernel
theorem dX12_cleans_41 : decode cX12_cleans 41 = .ok (.bipush 10, 2) := by decide +kernel
theorem dX12_cleans_43 : decode cX12_cleans 43 = .ok (.invokevirtual 69, 3) := by decide +kernel
theorem dX12_cleans_46 : decode cX12_cleans 46 = .ok (.iinc 1 1, 3) := by decide +kernel
theorem dX12_cleans_49 : decode cX12_cleans 49 = .ok (.goto (-24), 3) := by decide +kernel
theorem dX12_cleans_52 : decode cX12_cleans 52 = .ok (.aload_n 0, 1) := by decide +kernel
theorem dX12_cleans_53 : decode cX12_cleans 53 = .ok (.getfield 13, 3) := by decide +kernel
theorem dX12_cleans_56 : decode cX12_cleans 56 = .ok (.iconst 2, 1) := by decide +kernel
theorem dX12_cleans_57 : decode cX12_cleans 57 = .ok (.iconst 0, 1) := by decide +kernel
theorem dX12_cleans_58 : decode cX12_cleans 58 = .ok (.iastore, 1) := by decide +kernel
theorem dX12_cleans_59 : decode cX12_cleans 59 = .ok (.return_, 1) := by decide +kernel
set_option maxRecDepth 20000 in
theorem kb_152_0 : ∀ q ∈ tb_152_0, s_atx 152 yX12_cleans cX12_cleans q.1 q.2 := (List.forall_mem_cons.mpr ⟨⟨s_bipush dX12_cleans_0 (by decide +kernel), s_mo_push _ _⟩, (List.forall_mem_cons.mpr ⟨⟨s_stIn dX12_cleans_2 rfl, s_mo_stI _ _⟩, (List.forall_mem_cons.mpr ⟨⟨s_ldIn dX12_cleans_3 rfl, s_mo_ldI _ _⟩, (List.forall_mem_cons.mpr ⟨⟨s_sipush dX12_cleans_4 (by decide +kernel), s_mo_push _ _⟩, (List.forall_mem_cons.mpr ⟨⟨s_icge dX12_cleans_7 (by decide), s_mo_icge _ _⟩, (List.forall_mem_cons.mpr ⟨⟨s_ldAn dX12_cleans_10 rfl, s_mo_ldA _ _⟩, (List.forall_mem_cons.mpr ⟨⟨s_getf (ci := 8) (k := 1) rfl (by decide) inX12 w_1222 dX12_cleans_11, s_mo_getf _ _ _⟩, (List.forall_mem_cons.mpr ⟨⟨s_ldIn dX12_cleans_14 rfl, s_mo_ldI _ _⟩, (List.forall_mem_cons.mpr ⟨⟨s_iconst dX12_cleans_15 (by decide +kernel), s_mo_push _ _⟩, (List.forall_mem_cons.mpr ⟨⟨s_iast dX12_cleans_16, s_mo_iast _⟩, (List.forall_mem_cons.mpr ⟨⟨s_inc dX12_cleans_17 (by decide +kernel), s_mo_inc _ _ _⟩, (List.forall_mem_cons.mpr ⟨⟨s_goto dX12_cleans_20 (by decide), s_mo_goto _⟩, (List.forall_mem_cons.mpr ⟨⟨s_iconst dX12_cleans_23 (by decide +kernel), s_mo_push _ _⟩, (List.forall_mem_cons.mpr ⟨⟨s_stIn dX12_cleans_24 rfl, s_mo_stI _ _⟩, (List.forall_mem_cons.mpr ⟨⟨s_ldIn dX12_cleans_25 rfl, s_mo_ldI _ _⟩, (List.forall_mem_cons.mpr ⟨⟨s_bipush dX12_cleans_26 (by decide +kernel), s_mo_push _ _⟩, (List.forall_mem_cons.mpr ⟨⟨s_icge dX12_cleans_28 (by decide), s_mo_icge _ _⟩, (List.forall_mem_cons.mpr ⟨⟨s_ldAn dX12_cleans_31 rfl, s_mo_ldA _ _⟩, (List.forall_mem_cons.mpr ⟨⟨s_ldIn dX12_cleans_32 rfl, s_mo_ldI _ _⟩, (List.forall_mem_cons.mpr ⟨⟨s_iconst dX12_cleans_33 (by decide +kernel), s_mo_push _ _⟩, (List.forall_mem_cons.mpr ⟨⟨s_iconst dX12_cleans_34 (by decide +kernel), s_mo_push _ _⟩, (List.forall_mem_cons.mpr ⟨⟨s_sV mk_152 mk_159 ok_159 (by decide +kernel) dX12_cleans_35 w_1217 w_1219 wp_24 (Or.inr ⟨8, _, _, rfl, rfl⟩), s_h0 mk_152⟩, (List.forall_mem_cons.mpr ⟨⟨s_ldAn dX12_cleans_38 rfl, s_mo_ldA _ _⟩, (List.forall_mem_cons.mpr ⟨⟨s_ldIn dX12_cleans_39 rfl, s_mo_ldI _ _⟩, (List.forall_mem_cons.mpr ⟨⟨s_iconst dX12_cleans_40 (by decide +kernel), s_mo_push _ _⟩, (List.forall_mem_cons.mpr ⟨⟨s_bipush dX12_cleans_41 (by decide +kernel), s_mo_push _ _⟩, (List.forall_mem_cons.mpr ⟨⟨s_sV mk_152 mk_159 ok_159 (by decide +kernel) dX12_cleans_43 w_1217 w_1219 wp_24 (Or.inr ⟨8, _, _, rfl, rfl⟩), s_h0 mk_152⟩, (List.forall_mem_cons.mpr ⟨⟨s_inc dX12_cleans_46 (by decide +kernel), s_mo_inc _ _ _⟩, (List.forall_mem_cons.mpr ⟨⟨s_goto dX12_cleans_49 (by decide), s_mo_goto _⟩, (List.forall_mem_cons.mpr ⟨⟨s_ldAn dX12_cleans_52 rfl, s_mo_ldA _ _⟩, (List.forall_mem_cons.mpr ⟨⟨s_getf (ci := 8) (k := 1) rfl (by decide) inX12 w_1222 dX12_cleans_53, s_mo_getf _ _ _⟩, (List.forall_mem_cons.mpr ⟨⟨s_iconst dX12_cleans_56 (by decide +kernel), s_mo_push _ _⟩, (List.forall_mem_cons.mpr ⟨⟨s_iconst dX12_cleans_57 (by decide +kernel), s_mo_push _ _⟩, (List.forall_mem_cons.mpr ⟨⟨s_iast dX12_cleans_58, s_mo_iast _⟩, (List.forall_mem_cons.mpr ⟨s_r0 mk_152 dX12_cleans_59, (fun _ h => absurd h List.not_mem_nil)⟩)⟩)⟩)⟩)⟩)⟩)⟩)⟩)⟩)⟩)⟩)⟩)⟩)⟩)⟩)⟩)⟩)⟩)⟩)⟩)⟩)⟩)⟩)⟩)⟩)⟩)⟩)⟩)⟩)⟩)⟩)⟩)⟩)⟩)⟩)
theorem km_152 : ∀ t ∈ tm_152, s_tok 152 t := (List.forall_mem_cons.mpr ⟨s_lift mk_152 kb_152_0, (fun _ h => absurd h List.not_mem_nil)⟩)
theorem dX12_image_0 : decode cX12_image 0 = .ok (.aload_n 0, 1) := by decide +kernel
theorem dX12_image_1 : decode cX12_image 1 = .ok (.iconst 0, 1) := by decide +kernel
theorem dX12_image_2 : decode cX12_image 2 = .ok (.putfield 3, 3) := by decide +kernel
theorem dX12_image_5 : decode cX12_image 5 = .ok (.iconst 0, 1) := by decide +kernel
theorem dX12_image_6 : decode cX12_image 6 = .ok (.istore_n 1, 1) := by decide +kernel
theorem dX12_image_7 : decode cX12_image 7 = .ok (.iload_n 1, 1) := by decide +kernel
theorem dX12_image_8 : decode cX12_image 8 = .ok (.sipush 1264, 3) := by decide +kernel
theorem dX12_image_11 : decode cX12_image 11 = .ok (.if_icmp .ge 21, 3) := by decide +kernel
theorem dX12_image_14 : decode cX12_image 14 = .ok (.aload_n 0, 1) := by decide +kernel
theorem dX12_image_15 : decode cX12_image 15 = .ok (.getfield 17, 3) := by decide +kernel
theorem dX12_image_18 : decode cX12_image 18 = .ok (.iload_n 1, 1) := by decide +kernel
theorem dX12_image_19 : decode cX12_image 19 = .ok (.aload_n 0, 1) := by decide +kernel
theorem dX12_image_20 : decode cX12_image 20 = .ok (.getfield 13, 3) := by decide +kernel
theorem dX12_image_23 : decode cX12_image 23 = .ok (.iload_n 1, 1) := by decide +kernel
theorem dX12_image_24 : decode cX12_image 24 = .ok (.iaload, 1) := by decide +kernel
theorem dX12_image_25 : decode cX12_image 25 = .ok (.iastore, 1) := by decide +kernel
theorem dX12_image_26 : decode cX12_image 26 = .ok (.iinc 1 1, 3) := by decide +kernel
theorem dX12_image_29 : decode cX12_image 29 = .ok (.goto (-22), 3) := by decide +kernel
theorem dX12_image_32 : decode cX12_image 32 = .ok (.aload_n 0, 1) := by decide +kernel
theorem dX12_image_33 : decode cX12_image 33 = .ok (.iconst 1, 1) := by decide +kernel
theorem dX12_image_34 : decode cX12_image 34 = .ok (.putfield 73, 3) := by decide +kernel
theorem dX12_image_37 : decode cX12_image 37 = .ok (.return_, 1) := by decide +kernel
set_option maxRecDepth 20000 in
theorem kb_153_0 : ∀ q ∈ tb_153_0, s_atx 153 yX12_image cX12_image q.1 q.2 := (List.forall_mem_cons.mpr ⟨⟨s_ldAn dX12_image_0 rfl, s_mo_ldA _ _⟩, (List.forall_mem_cons.mpr ⟨⟨s_iconst dX12_image_1 (by decide +kernel), s_mo_push _ _⟩, (List.forall_mem_cons.mpr ⟨⟨s_putI (ci := 8) (k := 0) rfl (by decide) inX12 tyX12_ok nmX12 rfl rfl w_1221 dX12_image_2, s_mo_putI _ _ _⟩, (List.forall_mem_cons.mpr ⟨⟨s_iconst dX12_image_5 (by decide +kernel), s_mo_push _ _⟩, (List.forall_mem_cons.mpr ⟨⟨s_stIn dX12_image_6 rfl, s_mo_stI _ _⟩, (List.forall_mem_cons.mpr ⟨⟨s_ldIn dX12_image_7 rfl, s_mo_ldI _ _⟩, (List.forall_mem_cons.mpr ⟨⟨s_sipush dX12_image_8 (by decide +kernel), s_mo_push _ _⟩, (List.forall_mem_cons.mpr ⟨⟨s_icge dX12_image_11 (by decide), s_mo_icge _ _⟩, (List.forall_mem_cons.mpr ⟨⟨s_ldAn dX12_image_14 rfl, s_mo_ldA _ _⟩, (List.forall_mem_cons.mpr ⟨⟨s_getf (ci := 8) (k := 2) rfl (by decide) inX12 w_1223 dX12_image_15, s_mo_getf _ _ _⟩, (List.forall_mem_cons.mpr ⟨⟨s_ldIn dX12_image_18 rfl, s_mo_ldI _ _⟩, (List.forall_mem_cons.mpr ⟨⟨s_ldAn dX12_image_19 rfl, s_mo_ldA _ _⟩, (List.forall_mem_cons.mpr ⟨⟨s_getf (ci := 8) (k := 1) rfl (by decide) inX12 w_1222 dX12_image_20, s_mo_getf _ _ _⟩, (List.forall_mem_cons.mpr ⟨⟨s_ldIn dX12_image_23 rfl, s_mo_ldI _ _⟩, (List.forall_mem_cons.mpr ⟨⟨s_iald dX12_image_24, s_mo_iald _⟩, (List.forall_mem_cons.mpr ⟨⟨s_iast dX12_image_25, s_mo_iast _⟩, (List.forall_mem_cons.mpr ⟨⟨s_inc dX12_image_26 (by decide +kernel), s_mo_inc _ _ _⟩, (List.forall_mem_cons.mpr ⟨⟨s_goto dX12_image_29 (by decide), s_mo_goto _⟩, (List.forall_mem_cons.mpr ⟨⟨s_ldAn dX12_image_32 rfl, s_mo_ldA _ _⟩, (List.forall_mem_cons.mpr ⟨⟨s_iconst dX12_image_33 (by decide +kernel), s_mo_push _ _⟩, (List.forall_mem_cons.mpr ⟨⟨s_putZ (ci := 8) (k := 4) rfl (by decide) inX12 tyX12_ok nmX12 rfl rfl w_1225 dX12_image_34, s_mo_putZ _ _ _⟩, (List.forall_mem_cons.mpr ⟨s_r0 mk_153 dX12_image_37, (fun _ h => absurd h List.not_mem_nil)⟩)⟩)⟩)⟩)⟩)⟩)⟩)⟩)⟩)⟩)⟩)⟩)⟩)⟩)⟩)⟩)⟩)⟩)⟩)⟩)⟩)⟩)
theorem km_153 : ∀ t ∈ tm_153, s_tok 153 t := (List.forall_mem_cons.mpr ⟨s_lift mk_153 kb_153_0, (fun _ h => absurd h List.not_mem_nil)⟩)
theorem dX12_back_0 : decode cX12_back 0 = .ok (.aload_n 0, 1) := by decide +kernel
theorem dX12_back_1 : decode cX12_back 1 = .ok (.iconst 0, 1) := by decide +kernel
theorem dX12_back_2 : decode cX12_back 2 = .ok (.putfield 3, 3) := by decide +kernel
theorem dX12_back_5 : decode cX12_back 5 = .ok (.aload_n 0, 1) := by decide +kernel
theorem dX12_back_6 : decode cX12_back 6 = .ok (.getfield 73, 3) := by decide +kernel
theorem dX12_back_9 : decode cX12_back 9 = .ok (.ifCond .ne 5, 3) := by decide +kernel
theorem dX12_back_12 : decode cX12_back 12 = .ok (.iconst 0, 1) := by decide +kernel
theorem dX12_back_13 : decode cX12_back 13 = .ok (.ireturn, 1) := by decide +kernel
theorem dX12_back_14 : decode cX12_back 14 = .ok (.iconst 0, 1) := by decide +kernel
theorem dX12_back_15 : decode cX12_back 15 = .ok (.istore_n 1, 1) := by decide +kernel
theorem dX12_back_16 : decode cX12_back 16 = .ok (.iload_n 1, 1) := by decide +kernel
theorem dX12_back_17 : decode cX12_back 17 = .ok (.sipush 1264, 3) := by decide +kernel
theorem dX12_back_20 : decode cX12_back 20 = .ok (.if_icmp .ge 21, 3) := by decide +kernel
theorem dX12_back_23 : decode cX12_back 23 = .ok (.aload_n 0, 1) := by decide +kernel
theorem dX12_back_24 : decode cX12_back 24 = .ok (.getfield 13, 3) := by decide +kernel
theorem dX12_back_27 : decode cX12_back 27 = .ok (.iload_n 1, 1) := by decide +kernel
theorem dX12_back_28 : decode cX12_back 28 = .ok (.aload_n 0, 1) := by decide +kernel
theorem dX12_back_29 : decode cX12_back 29 = .ok (.getfield 17, 3) := by decide +kernel
theorem dX12_back_32 : decode cX12_back 32 = .ok (.iload_n 1, 1) := by decide +kernel
theorem dX12_back_33 : decode cX12_back 33 = .ok (.iaload, 1) := by decide +kernel
theorem dX12_back_34 : decode cX12_back 34 = .ok (.iastore, 1) := by decide +kernel
theorem dX12_back_35 : decode cX12_back 35 = .ok (.iinc 1 1, 3) := by decide +kernel
theorem dX12_back_38 : decode cX12_back 38 = .ok (.goto (-22), 3) := by decide +kernel
theorem dX12_back_41 : decode cX12_back 41 = .ok (.aload_n 0, 1) := by decide +kernel
theorem dX12_back_42 : decode cX12_back 42 = .ok (.iconst 0, 1) := by decide +kernel
theorem dX12_back_43 : decode cX12_back 43 = .ok (.putfield 77, 3) := by decide +kernel
theorem dX12_back_46 : decode cX12_back 46 = .ok (.iconst 1, 1) := by decide +kernel
theorem dX12_back_47 : decode cX12_back 47 = .ok (.ireturn, 1) := by decide +kernel
set_option maxRecDepth 20000 in
theorem kb_154_0 : ∀ q ∈ tb_154_0, s_atx 154 yX12_back cX12_back q.1 q.2 := (List.forall_mem_cons.mpr ⟨⟨s_ldAn dX12_back_0 rfl, s_mo_ldA _ _⟩, (List.forall_mem_cons.mpr ⟨⟨s_iconst dX12_back_1 (by decide +kernel), s_mo_push _ _⟩, (List.forall_mem_cons.mpr ⟨⟨s_putI (ci := 8) (k := 0) rfl (by decide) inX12 tyX12_ok nmX12 rfl rfl w_1221 dX12_back_2, s_mo_putI _ _ _⟩, (List.forall_mem_cons.mpr ⟨⟨s_ldAn dX12_back_5 rfl, s_mo_ldA _ _⟩, (List.forall_mem_cons.mpr ⟨⟨s_getf (ci := 8) (k := 4) rfl (by decide) inX12 w_1225 dX12_back_6, s_mo_getf _ _ _⟩, (List.forall_mem_cons.mpr ⟨⟨s_ifne dX12_back_9 (by decide), s_mo_ifne _ _⟩, (List.forall_mem_cons.mpr ⟨⟨s_iconst dX12_back_12 (by decide +kernel), s_mo_push _ _⟩, (List.forall_mem_cons.mpr ⟨s_r2 mk_154 dX12_back_13, (List.forall_mem_cons.mpr ⟨⟨s_iconst dX12_back_14 (by decide +kernel), s_mo_push _ _⟩, (List.forall_mem_cons.mpr ⟨⟨s_stIn dX12_back_15 rfl, s_mo_stI _ _⟩, (List.forall_mem_cons.mpr ⟨⟨s_ldIn dX12_back_16 rfl, s_mo_ldI _ _⟩, (List.forall_mem_cons.mpr ⟨⟨s_sipush dX12_back_17 (by decide +kernel), s_mo_push _ _⟩, (List.forall_mem_cons.mpr ⟨⟨s_icge dX12_back_20 (by decide), s_mo_icge _ _⟩, (List.forall_mem_cons.mpr ⟨⟨s_ldAn dX12_back_23 rfl, s_mo_ldA _ _⟩, (List.forall_mem_cons.mpr ⟨⟨s_getf (ci := 8) (k := 1) rfl (by decide) inX12 w_1222 dX12_back_24, s_mo_getf _ _ _⟩, (List.forall_mem_cons.mpr ⟨⟨s_ldIn dX12_back_27 rfl, s_mo_ldI _ _⟩, (List.forall_mem_cons.mpr ⟨⟨s_ldAn dX12_back_28 rfl, s_mo_ldA _ _⟩, (List.forall_mem_cons.mpr ⟨⟨s_getf (ci := 8) (k := 2) rfl (by decide) inX12 w_1223 dX12_back_29, s_mo_getf _ _ _⟩, (List.forall_mem_cons.mpr ⟨⟨s_ldIn dX12_back_32 rfl, s_mo_ldI _ _⟩, (List.forall_mem_cons.mpr ⟨⟨s_iald dX12_back_33, s_mo_iald _⟩, (List.forall_mem_cons.mpr ⟨⟨s_iast dX12_back_34, s_mo_iast _⟩, (List.forall_mem_cons.mpr ⟨⟨s_inc dX12_back_35 (by decide +kernel), s_mo_inc _ _ _⟩, (List.forall_mem_cons.mpr ⟨⟨s_goto dX12_back_38 (by decide), s_mo_goto _⟩, (List.forall_mem_cons.mpr ⟨⟨s_ldAn dX12_back_41 rfl, s_mo_ldA _ _⟩, (List.forall_mem_cons.mpr ⟨⟨s_iconst dX12_back_42 (by decide +kernel), s_mo_push _ _⟩, (List.forall_mem_cons.mpr ⟨⟨s_putI (ci := 8) (k := 6) rfl (by decide) inX12 tyX12_ok nmX12 rfl rfl w_1227 dX12_back_43, s_mo_putI _ _ _⟩, (List.forall_mem_cons.mpr ⟨⟨s_iconst dX12_back_46 (by decide +kernel), s_mo_push _ _⟩, (List.forall_mem_cons.mpr ⟨s_r2 mk_154 dX12_back_47, (fun _ h => absurd h List.not_mem_nil)⟩)⟩)⟩)⟩)⟩)⟩)⟩)⟩)⟩)⟩)⟩)⟩)⟩)⟩)⟩)⟩)⟩)⟩)⟩)⟩)⟩)⟩)⟩)⟩)⟩)⟩)⟩)⟩)
theorem km_154 : ∀ t ∈ tm_154, s_tok 154 t := (List.forall_mem_cons.mpr ⟨s_lift mk_154 kb_154_0, (fun _ h => absurd h List.not_mem_nil)⟩)
theorem dX12_wide_0 : decode cX12_wide 0 = .ok (.aload_n 0, 1) := by decide +kernel
theorem dX12_wide_1 : decode cX12_wide 1 = .ok (.getfield 13, 3) := by decide +kernel
theorem dX12_wide_4 : decode cX12_wide 4 = .ok (.iconst 0, 1) := by decide +kernel
theorem dX12_wide_5 : decode cX12_wide 5 = .ok (.iaload, 1) := by decide +kernel
theorem dX12_wide_6 : decode cX12_wide 6 = .ok (.ireturn, 1) := by decide +kernel
set_option maxRecDepth 20000 in
theorem kb_155_0 : ∀ q ∈ tb_155_0, s_atx 155 yX12_wide cX12_wide q.1 q.2 := (List.forall_mem_cons.mpr ⟨⟨s_ldAn dX12_wide_0 rfl, s_mo_ldA _ _⟩, (List.forall_mem_cons.mpr ⟨⟨s_getf (ci := 8) (k := 1) rfl (by decide) inX12 w_1222 dX12_wide_1, s_mo_getf _ _ _⟩, (List.forall_mem_cons.mpr ⟨⟨s_iconst dX12_wide_4 (by decide +kernel), s_mo_push _ _⟩, (List.forall_mem_cons.mpr ⟨⟨s_iald dX12_wide_5, s_mo_iald _⟩, (List.forall_mem_cons.mpr ⟨s_r1 mk_155 dX12_wide_6, (fun _ h => absurd h List.not_mem_nil)⟩)⟩)⟩)⟩)⟩)
theorem km_155 : ∀ t ∈ tm_155, s_tok 155 t := (List.forall_mem_cons.mpr ⟨s_lift mk_155 kb_155_0, (fun _ h => absurd h List.not_mem_nil)⟩)
theorem dX12_panes_0 : decode cX12_panes 0 = .ok (.aload_n 0, 1) := by decide +kernel
theorem dX12_panes_1 : decode cX12_panes 1 = .ok (.getfield 13, 3) := by decide +kernel
theorem dX12_panes_4 : decode cX12_panes 4 = .ok (.iconst 0, 1) := by decide +kernel
theorem dX12_panes_5 : decode cX12_panes 5 = .ok (.iaload, 1) := by decide +kernel
theorem dX12_panes_6 : decode cX12_panes 6 = .ok (.aload_n 0, 1) := by decide +kernel
theorem dX12_panes_7 : decode cX12_panes 7 = .ok (.getfield 13, 3) := by decide +kernel
theorem dX12_panes_10 : decode cX12_panes 10 = .ok (.iconst 1, 1) := by decide +kernel
theorem dX12_panes_11 : decode cX12_panes 11 = .ok (.iaload, 1) := by decide +kernel
theorem dX12_panes_12 : decode cX12_panes 12 = .ok (.imul, 1) := by decide +kernel
theorem dX12_panes_13 : decode cX12_panes 13 = .ok (.ireturn, 1) := by decide +kernel
set_option maxRecDepth 20000 in
theorem kb_156_0 : ∀ q ∈ tb_156_0, s_atx 156 yX12_panes cX12_panes q.1 q.2 := (List.forall_mem_cons.mpr ⟨⟨s_ldAn dX12_panes_0 rfl, s_mo_ldA _ _⟩, (List.forall_mem_cons.mpr ⟨⟨s_getf (ci := 8) (k := 1) rfl (by decide) inX12 w_1222 dX12_panes_1, s_mo_getf _ _ _⟩, (List.forall_mem_cons.mpr ⟨⟨s_iconst dX12_panes_4 (by decide +kernel), s_mo_push _ _⟩, (List.forall_mem_cons.mpr ⟨⟨s_iald dX12_panes_5, s_mo_iald _⟩, (List.forall_mem_cons.mpr ⟨⟨s_ldAn dX12_panes_6 rfl, s_mo_ldA _ _⟩, (List.forall_mem_cons.mpr ⟨⟨s_getf (ci := 8) (k := 1) rfl (by decide) inX12 w_1222 dX12_panes_7, s_mo_getf _ _ _⟩, (List.forall_mem_cons.mpr ⟨⟨s_iconst dX12_panes_10 (by decide +kernel), s_mo_push _ _⟩, (List.forall_mem_cons.mpr ⟨⟨s_iald dX12_panes_11, s_mo_iald _⟩, (List.forall_mem_cons.mpr ⟨⟨s_imul dX12_panes_12, s_mo_bin _ _⟩, (List.forall_mem_cons.mpr ⟨s_r1 mk_156 dX12_panes_13, (fun _ h => absurd h List.not_mem_nil)⟩)⟩)⟩)⟩)⟩)⟩)⟩)⟩)⟩)⟩)
theorem km_156 : ∀ t ∈ tm_156, s_tok 156 t := (List.forall_mem_cons.mpr ⟨s_lift mk_156 kb_156_0, (fun _ h => absurd h List.not_mem_nil)⟩)
theorem dX12_all_0 : decode cX12_all 0 = .ok (.iconst 1, 1) := by decide +kernel
theorem dX12_all_1 : decode cX12_all 1 = .ok (.aload_n 0, 1) := by decide +kernel
theorem dX12_all_2 : decode cX12_all 2 = .ok (.invokevirtual 80, 3) := by decide +kernel
theorem dX12_all_5 : decode cX12_all 5 = .ok (.ishl, 1) := by decide +kernel
theorem dX12_all_6 : decode cX12_all 6 = .ok (.iconst 1, 1) := by decide +kernel
theorem dX12_all_7 : decode cX12_all 7 = .ok (.isub, 1) := by decide +kernel
theorem dX12_all_8 : decode cX12_all 8 = .ok (.ireturn, 1) := by decide +kernel
set_option maxRecDepth 20000 in
theorem kb_157_0 : ∀ q ∈ tb_157_0, s_atx 157 yX12_all cX12_all q.1 q.2 := (List.forall_mem_cons.mpr ⟨⟨s_iconst dX12_all_0 (by decide +kernel), s_mo_push _ _⟩, (List.forall_mem_cons.mpr ⟨⟨s_ldAn dX12_all_1 rfl, s_mo_ldA _ _⟩, (List.forall_mem_cons.mpr ⟨⟨s_sV mk_157 mk_156 ok_156 (by decide +kernel) dX12_all_2 w_1454 w_1456 wp_49 (Or.inr ⟨8, _, _, rfl, rfl⟩), s_h0 mk_157⟩, (List.forall_mem_cons.mpr ⟨⟨s_ishl dX12_all_5, s_mo_bin _ _⟩, (List.forall_mem_cons.mpr ⟨⟨s_iconst dX12_all_6 (by decide +kernel), s_mo_push _ _⟩, (List.forall_mem_cons.mpr ⟨⟨s_isub dX12_all_7, s_mo_bin _ _⟩, (List.forall_mem_cons.mpr ⟨s_r1 mk_157 dX12_all_8, (fun _ h => absurd h List.not_mem_nil)⟩)⟩)⟩)⟩)⟩)⟩)⟩)
theorem km_157 : ∀ t ∈ tm_157, s_tok 157 t := (List.forall_mem_cons.mpr ⟨s_lift mk_157 kb_157_0, (fun _ h => absurd h List.not_mem_nil)⟩)
theorem dX12_of_0 : decode cX12_of 0 = .ok (.aload_n 0, 1) := by decide +kernel
theorem dX12_of_1 : decode cX12_of 1 = .ok (.getfield 13, 3) := by decide +kernel
theorem dX12_of_4 : decode cX12_of 4 = .ok (.bipush 7, 2) := by decide +kernel
theorem dX12_of_6 : decode cX12_of 6 = .ok (.bipush 6, 2) := by decide +kernel
theorem dX12_of_8 : decode cX12_of 8 = .ok (.iload_n 1, 1) := by decide +kernel
theorem dX12_of_9 : decode cX12_of 9 = .ok (.imul, 1) := by decide +kernel
theorem dX12_of_10 : decode cX12_of 10 = .ok (.iadd, 1) := by decide +kernel
theorem dX12_of_11 : decode cX12_of 11 = .ok (.iload_n 2, 1) := by decide +kernel
theorem dX12_of_12 : decode cX12_of 12 = .ok (.iadd, 1) := by decide +kernel
theorem dX12_of_13 : decode cX12_of 13 = .ok (.iaload, 1) := by decide +kernel
theorem dX12_of_14 : decode cX12_of 14 = .ok (.ireturn, 1) := by decide +kernel
set_option maxRecDepth 20000 in
theorem kb_158_0 : ∀ q ∈ tb_158_0, s_atx 158 yX12_of cX12_of q.1 q.2 := (List.forall_mem_cons.mpr ⟨⟨s_ldAn dX12_of_0 rfl, s_mo_ldA _ _⟩, (List.forall_mem_cons.mpr ⟨⟨s_getf (ci := 8) (k := 1) rfl (by decide) inX12 w_1222 dX12_of_1, s_mo_getf _ _ _⟩, (List.forall_mem_cons.mpr ⟨⟨s_bipush dX12_of_4 (by decide +kernel), s_mo_push _ _⟩, (List.forall_mem_cons.mpr ⟨⟨s_bipush dX12_of_6 (by decide +kernel), s_mo_push _ _⟩, (List.forall_mem_cons.mpr ⟨⟨s_ldIn dX12_of_8 rfl, s_mo_ldI _ _⟩, (List.forall_mem_cons.mpr ⟨⟨s_imul dX12_of_9, s_mo_bin _ _⟩, (List.forall_mem_cons.mpr ⟨⟨s_iadd dX12_of_10, s_mo_bin _ _⟩, (List.forall_mem_cons.mpr ⟨⟨s_ldIn dX12_of_11 rfl, s_mo_ldI _ _⟩, (List.forall_mem_cons.mpr ⟨⟨s_iadd dX12_of_12, s_mo_bin _ _⟩, (List.forall_mem_cons.mpr ⟨⟨s_iald dX12_of_13, s_mo_iald _⟩, (List.forall_mem_cons.mpr ⟨s_r1 mk_158 dX12_of_14, (fun _ h => absurd h List.not_mem_nil)⟩)⟩)⟩)⟩)⟩)⟩)⟩)⟩)⟩)⟩)⟩)
theorem km_158 : ∀ t ∈ tm_158, s_tok 158 t := (List.forall_mem_cons.mpr ⟨s_lift mk_158 kb_158_0, (fun _ h => absurd h List.not_mem_nil)⟩)
theorem dX12_sets_0 : decode cX12_sets 0 = .ok (.aload_n 0, 1) := by decide +kernel
theorem dX12_sets_1 : decode cX12_sets 1 = .ok (.getfield 13, 3) := by decide +kernel
theorem dX12_sets_4 : decode cX12_sets 4 = .ok (.bipush 7, 2) := by decide +kernel
theorem dX12_sets_6 : decode cX12_sets 6 = .ok (.bipush 6, 2) := by decide +kernel
theorem dX12_sets_8 : decode cX12_sets 8 = .ok (.iload_n 1, 1) := by decide +kernel
theorem dX12_sets_9 : decode cX12_sets 9 = .ok (.imul, 1) := by decide +kernel
theorem dX12_sets_10 : decode cX12_sets 10 = .ok (.iadd, 1) := by decide +kernel
theorem dX12_sets_11 : decode cX12_sets 11 = .ok (.iload_n 2, 1) := by decide +kernel
theorem dX12_sets_12 : decode cX12_sets 12 = .ok (.iadd, 1) := by decide +kernel
theorem dX12_sets_13 : decode cX12_sets 13 = .ok (.iload_n 3, 1) := by decide +kernel
theorem dX12_sets_14 : decode cX12_sets 14 = .ok (.iastore, 1) := by decide +kernel
theorem dX12_sets_15 : decode cX12_sets 15 = .ok (.return_, 1) := by decide +kernel
set_option maxRecDepth 20000 in
theorem kb_159_0 : ∀ q ∈ tb_159_0, s_atx 159 yX12_sets cX12_sets q.1 q.2 := (List.forall_mem_cons.mpr ⟨⟨s_ldAn dX12_sets_0 rfl, s_mo_ldA _ _⟩, (List.forall_mem_cons.mpr ⟨⟨s_getf (ci := 8) (k := 1) rfl (by decide) inX12 w_1222 dX12_sets_1, s_mo_getf _ _ _⟩, (List.forall_mem_cons.mpr ⟨⟨s_bipush dX12_sets_4 (by decide +kernel), s_mo_push _ _⟩, (List.forall_mem_cons.mpr ⟨⟨s_bipush dX12_sets_6 (by decide +kernel), s_mo_push _ _⟩, (List.forall_mem_cons.mpr ⟨⟨s_ldIn dX12_sets_8 rfl, s_mo_ldI _ _⟩, (List.forall_mem_cons.mpr ⟨⟨s_imul dX12_sets_9, s_mo_bin _ _⟩, (List.forall_mem_cons.mpr ⟨⟨s_iadd dX12_sets_10, s_mo_bin _ _⟩, (List.forall_mem_cons.mpr ⟨⟨s_ldIn dX12_sets_11 rfl, s_mo_ldI _ _⟩, (List.forall_mem_cons.mpr ⟨⟨s_iadd dX12_sets_12, s_mo_bin _ _⟩, (List.forall_mem_cons.mpr ⟨⟨s_ldIn dX12_sets_13 rfl, s_mo_ldI _ _⟩, (List.forall_mem_cons.mpr ⟨⟨s_iast dX12_sets_14, s_mo_iast _⟩, (List.forall_mem_cons.mpr ⟨s_r0 mk_159 dX12_sets_15, (fun _ h => absurd h List.not_mem_nil)⟩)⟩)⟩)⟩)⟩)⟩)⟩)⟩)⟩)⟩)⟩)⟩)
theorem km_159 : ∀ t ∈ tm_159, s_tok 159 t := (List.forall_mem_cons.mpr ⟨s_lift mk_159 kb_159_0, (fun _ h => absurd h List.not_mem_nil)⟩)
theorem dX12_noPane_0 : decode cX12_noPane 0 = .ok (.iload_n 1, 1) := by decide +kernel
theorem dX12_noPane_1 : decode cX12_noPane 1 = .ok (.iconst 0, 1) := by decide +kernel
theorem dX12_noPane_2 : decode cX12_noPane 2 = .ok (.aload_n 0, 1) := by decide +kernel
theorem dX12_noPane_3 : decode cX12_noPane 3 = .ok (.invokevirtual 80, 3) := by decide +kernel
theorem dX12_noPane_6 : decode cX12_noPane 6 = .ok (.iconst 1, 1) := by decide +kernel
theorem dX12_noPane_7 : decode cX12_noPane 7 = .ok (.isub, 1) := by decide +kernel
theorem dX12_noPane_8 : decode cX12_noPane 8 = .ok (.invokestatic 84, 3) := by decide +kernel
theorem dX12_noPane_11 : decode cX12_noPane 11 = .ok (.ifCond .ne 7, 3) := by decide +kernel
theorem dX12_noPane_14 : decode cX12_noPane 14 = .ok (.iconst 1, 1) := by decide +kernel
theorem dX12_noPane_15 : decode cX12_noPane 15 = .ok (.goto 4, 3) := by decide +kernel
theorem dX12_noPane_18 : decode cX12_noPane 18 = .ok (.iconst 0, 1) := by decide +kernel
theorem dX12_noPane_19 : decode cX12_noPane 19 = .ok (.ireturn, 1) := by decide +kernel
set_option maxRecDepth 20000 in
theorem kb_160_0 : ∀ q ∈ tb_160_0, s_atx 160 yX12_noPane cX12_noPane q.1 q.2 := (List.forall_mem_cons.mpr ⟨⟨s_ldIn dX12_noPane_0 rfl, s_mo_ldI _ _⟩, (List.forall_mem_cons.mpr ⟨⟨s_iconst dX12_noPane_1 (by decide +kernel), s_mo_push _ _⟩, (List.forall_mem_cons.mpr ⟨⟨s_ldAn dX12_noPane_2 rfl, s_mo_ldA _ _⟩, (List.forall_mem_cons.mpr ⟨⟨s_sV mk_160 mk_156 ok_156 (by decide +kernel) dX12_noPane_3 w_1454 w_1456 wp_49 (Or.inr ⟨8, _, _, rfl, rfl⟩), s_h0 mk_160⟩, (List.forall_mem_cons.mpr ⟨⟨s_iconst dX12_noPane_6 (by decide +kernel), s_mo_push _ _⟩, (List.forall_mem_cons.mpr ⟨⟨s_isub dX12_noPane_7, s_mo_bin _ _⟩, (List.forall_mem_cons.mpr ⟨⟨s_sS mk_160 mk_150 ok_150 (by decide +kernel) dX12_noPane_8 w_1458 w_1459, s_h0 mk_160⟩, (List.forall_mem_cons.mpr ⟨⟨s_ifne dX12_noPane_11 (by decide), s_mo_ifne _ _⟩, (List.forall_mem_cons.mpr ⟨⟨s_iconst dX12_noPane_14 (by decide +kernel), s_mo_push _ _⟩, (List.forall_mem_cons.mpr ⟨⟨s_goto dX12_noPane_15 (by decide), s_mo_goto _⟩, (List.forall_mem_cons.mpr ⟨⟨s_iconst dX12_noPane_18 (by decide +kernel), s_mo_push _ _⟩, (List.forall_mem_cons.mpr ⟨s_r2 mk_160 dX12_noPane_19, (fun _ h => absurd h List.not_mem_nil)⟩)⟩)⟩)⟩)⟩)⟩)⟩)⟩)⟩)⟩)⟩)⟩)
theorem km_160 : ∀ t ∈ tm_160, s_tok 160 t := (List.forall_mem_cons.mpr ⟨s_lift mk_160 kb_160_0, (fun _ h => absurd h List.not_mem_nil)⟩)
theorem dX12_noHour_0 : decode cX12_noHour 0 = .ok (.iload_n 0, 1) := by decide +kernel
theorem dX12_noHour_1 : decode cX12_noHour 1 = .ok (.iconst 0, 1) := by decide +kernel
theorem dX12_noHour_2 : decode cX12_noHour 2 = .ok (.bipush 23, 2) := by decide +kernel
theorem dX12_noHour_4 : decode cX12_noHour 4 = .ok (.invokestatic 84, 3) := by decide +kernel
theorem dX12_noHour_7 : decode cX12_noHour 7 = .ok (.ifCond .ne 7, 3) := by decide +kernel
theorem dX12_noHour_10 : decode cX12_noHour 10 = .ok (.iconst 1, 1) := by decide +kernel
theorem dX12_noHour_11 : decode cX12_noHour 11 = .ok (.goto 4, 3) := by decide +kernel
theorem dX12_noHour_14 : decode cX12_noHour 14 = .ok (.iconst 0, 1) := by decide +kernel
theorem dX12_noHour_15 : decode cX12_noHour 15 = .ok (.ireturn, 1) := by decide +kernel
set_option maxRecDepth 20000 in
theorem kb_161_0 : ∀ q ∈ tb_161_0, s_atx 161 yX12_noHour cX12_noHour q.1 q.2 := (List.forall_mem_cons.mpr ⟨⟨s_ldIn dX12_noHour_0 rfl, s_mo_ldI _ _⟩, (List.forall_mem_cons.mpr ⟨⟨s_iconst dX12_noHour_1 (by decide +kernel), s_mo_push _ _⟩, (List.forall_mem_cons.mpr ⟨⟨s_bipush dX12_noHour_2 (by decide +kernel), s_mo_push _ _⟩, (List.forall_mem_cons.mpr ⟨⟨s_sS mk_161 mk_150 ok_150 (by decide +kernel) dX12_noHour_4 w_1458 w_1459, s_h0 mk_161⟩, (List.forall_mem_cons.mpr ⟨⟨s_ifne dX12_noHour_7 (by decide), s_mo_ifne _ _⟩, (List.forall_mem_cons.mpr ⟨⟨s_iconst dX12_noHour_10 (by decide +kernel), s_mo_push _ _⟩, (List.forall_mem_cons.mpr ⟨⟨s_goto dX12_noHour_11 (by decide), s_mo_goto _⟩, (List.forall_mem_cons.mpr ⟨⟨s_iconst dX12_noHour_14 (by decide +kernel), s_mo_push _ _⟩, (List.forall_mem_cons.mpr ⟨s_r2 mk_161 dX12_noHour_15, (fun _ h => absurd h List.not_mem_nil)⟩)⟩)⟩)⟩)⟩)⟩)⟩)⟩)⟩)
theorem km_161 : ∀ t ∈ tm_161, s_tok 161 t := (List.forall_mem_cons.mpr ⟨s_lift mk_161 kb_161_0, (fun _ h => absurd h List.not_mem_nil)⟩)
theorem dX12_isBroken_0 : decode cX12_isBroken 0 = .ok (.aload_n 0, 1) := by decide +kernel
theorem dX12_isBroken_1 : decode cX12_isBroken 1 = .ok (.iload_n 1, 1) := by decide +kernel
theorem dX12_isBroken_2 : decode cX12_isBroken 2 = .ok (.iconst 3, 1) := by decide +kernel
theorem dX12_isBroken_3 : decode cX12_isBroken 3 = .ok (.invokevirtual 88, 3) := by decide +kernel
theorem dX12_isBroken_6 : decode cX12_isBroken 6 = .ok (.iconst 3, 1) := by decide +kernel
theorem dX12_isBroken_7 : decode cX12_isBroken 7 = .ok (.if_icmp .ne 7, 3) := by decide +kernel
theorem dX12_isBroken_10 : decode cX12_isBroken 10 = .ok (.iconst 1, 1) := by decide +kernel
theorem dX12_isBroken_11 : decode cX12_isBroken 11 = .ok (.goto 4, 3) := by decide +kernel
theorem dX12_isBroken_14 : decode cX12_isBroken 14 = .ok (.iconst 0, 1) := by decide +kernel
theorem dX12_isBroken_15 : decode cX12_isBroken 15 = .ok (.ireturn, 1) := by decide +kernel
set_option maxRecDepth 20000 in
theorem kb_162_0 : ∀ q ∈ tb_162_0, s_atx 162 yX12_isBroken cX12_isBroken q.1 q.2 := (List.forall_mem_cons.mpr ⟨⟨s_ldAn dX12_isBroken_0 rfl, s_mo_ldA _ _⟩, (List.forall_mem_cons.mpr ⟨⟨s_ldIn dX12_isBroken_1 rfl, s_mo_ldI _ _⟩, (List.forall_mem_cons.mpr ⟨⟨s_iconst dX12_isBroken_2 (by decide +kernel), s_mo_push _ _⟩, (List.forall_mem_cons.mpr ⟨⟨s_sV mk_162 mk_158 ok_158 (by decide +kernel) dX12_isBroken_3 w_1469 w_1471 wp_52 (Or.inr ⟨8, _, _, rfl, rfl⟩), s_h0 mk_162⟩, (List.forall_mem_cons.mpr ⟨⟨s_iconst dX12_isBroken_6 (by decide +kernel), s_mo_push _ _⟩, (List.forall_mem_cons.mpr ⟨⟨s_icne dX12_isBroken_7 (by decide), s_mo_icne _ _⟩, (List.forall_mem_cons.mpr ⟨⟨s_iconst dX12_isBroken_10 (by decide +kernel), s_mo_push _ _⟩, (List.forall_mem_cons.mpr ⟨⟨s_goto dX12_isBroken_11 (by decide), s_mo_goto _⟩, (List.forall_mem_cons.mpr ⟨⟨s_iconst dX12_isBroken_14 (by decide +kernel), s_mo_push _ _⟩, (List.forall_mem_cons.mpr ⟨s_r2 mk_162 dX12_isBroken_15, (fun _ h => absurd h List.not_mem_nil)⟩)⟩)⟩)⟩)⟩)⟩)⟩)⟩)⟩)⟩)
theorem km_162 : ∀ t ∈ tm_162, s_tok 162 t := (List.forall_mem_cons.mpr ⟨s_lift mk_162 kb_162_0, (fun _ h => absurd h List.not_mem_nil)⟩)
theorem dX12_beside_0 : decode cX12_beside 0 = .ok (.iload_n 1, 1) := by decide +kernel
theorem dX12_beside_1 : decode cX12_beside 1 = .ok (.aload_n 0, 1) := by decide +kernel
theorem dX12_beside_2 : decode cX12_beside 2 = .ok (.invokevirtual 92, 3) := by decide +kernel
theorem dX12_beside_5 : decode cX12_beside 5 = .ok (.irem, 1) := by decide +kernel
theorem dX12_beside_6 : decode cX12_beside 6 = .ok (.iload_n 2, 1) := by decide +kernel
theorem dX12_beside_7 : decode cX12_beside 7 = .ok (.iconst 1, 1) := by decide +kernel
theorem dX12_beside_8 : decode cX12_beside 8 = .ok (.if_icmp .ne 7, 3) := by decide +kernel
theorem dX12_beside_11 : decode cX12_beside 11 = .ok (.iconst 1, 1) := by decide +kernel
theorem dX12_beside_12 : decode cX12_beside 12 = .ok (.goto 13, 3) := by decide +kernel
theorem dX12_beside_15 : decode cX12_beside 15 = .ok (.iload_n 2, 1) := by decide +kernel
theorem dX12_beside_16 : decode cX12_beside 16 = .ok (.iconst 3, 1) := by decide +kernel
theorem dX12_beside_17 : decode cX12_beside 17 = .ok (.if_icmp .ne 7, 3) := by decide +kernel
theorem dX12_beside_20 : decode cX12_beside 20 = .ok (.iconst (-1), 1) := by decide +kernel
theorem dX12_beside_21 : decode cX12_beside 21 = .ok (.goto 4, 3) := by decide +kernel
theorem dX12_beside_24 : decode cX12_beside 24 = .ok (.iconst 0, 1) := by decide +kernel
theorem dX12_beside_25 : decode cX12_beside 25 = .ok (.iadd, 1) := by decide +kernel
theorem dX12_beside_26 : decode cX12_beside 26 = .ok (.istore_n 3, 1) := by decide +kernel
theorem dX12_beside_27 : decode cX12_beside 27 = .ok (.iload_n 1, 1) := by decide +kernel
theorem dX12_beside_28 : decode cX12_beside 28 = .ok (.aload_n 0, 1) := by decide +kernel
theorem dX12_beside_29 : decode cX12_beside 29 = .ok (.invokevirtual 92, 3) := by decide +kernel
theorem dX12_beside_32 : decode cX12_beside 32 = .ok (.idiv, 1) := by decide +kernel
theorem dX12_beside_33 : decode cX12_beside 33 = .ok (.iload_n 2, 1) := by decide +kernel
theorem dX12_beside_34 : decode cX12_beside 34 = .ok (.iconst 2, 1) := by decide +kernel
theorem dX12_beside_35 : decode cX12_beside 35 = .ok (.if_icmp .ne 7, 3) := by decide +kernel
theorem dX12_beside_38 : decode cX12_beside 38 = .ok (.iconst 1, 1) := by decide +kernel
theorem dX12_beside_39 : decode cX12_beside 39 = .ok (.goto 12, 3) := by decide +kernel
theorem dX12_beside_42 : decode cX12_beside 42 = .ok (.iload_n 2, 1) := by decide +kernel
theorem dX12_beside_43 : decode cX12_beside 43 = .ok (.ifCond .ne 7, 3) := by decide +kernel
theorem dX12_beside_46 : decode cX12_beside 46 = .ok (.iconst (-1), 1) := by decide +kernel
theorem dX12_beside_47 : decode cX12_beside 47 = .ok (.goto 4, 3) := by decide +kernel
theorem dX12_beside_50 : decode cX12_beside 50 = .ok (.iconst 0, 1) := by decide +kernel
theorem dX12_beside_51 : decode cX12_beside 51 = .ok (.iadd, 1) := by decide +kernel
theorem dX12_beside_52 : decode cX12_beside 52 = .ok (.istore 4, 2) := by decide +kernel
theorem dX12_beside_54 : decode cX12_beside 54 = .ok (.iload_n 3, 1) := by decide +kernel
theorem dX12_beside_55 : decode cX12_beside 55 = .ok (.iconst 0, 1) := by decide +kernel
theorem dX12_beside_56 : decode cX12_beside 56 = .ok (.aload_n 0, 1) := by decide +kernel
theorem dX12_beside_57 : decode cX12_beside 57 = .ok (.invokevirtual 92, 3) := by decide +kernel
theorem dX12_beside_60 : decode cX12_beside 60 = .ok (.iconst 1, 1) := by decide +kernel
theorem dX12_beside_61 : decode cX12_beside 61 = .ok (.isub, 1) := by decide +kernel
theorem dX12_beside_62 : decode cX12_beside 62 = .ok (.invokestatic 84, 3) := by decide +kernel
theorem dX12_beside_65 : decode cX12_beside 65 = .ok (.ifCond .eq 32, 3) := by decide +kernel
theorem dX12_beside_68 : decode cX12_beside 68 = .ok (.iload 4, 2) := by decide +kernel
theorem dX12_beside_70 : decode cX12_beside 70 = .ok (.iconst 0, 1) := by decide +kernel
theorem dX12_beside_71 : decode cX12_beside 71 = .ok (.aload_n 0, 1) := by decide +kernel
theorem dX12_beside_72 : decode cX12_beside 72 = .ok (.getfield 13, 3) := by decide +kernel
theorem dX12_beside_75 : decode cX12_beside 75 = .ok (.iconst 1, 1) := by decide +kernel
theorem dX12_beside_76 : decode cX12_beside 76 = .ok (.iaload, 1) := by decide +kernel
theorem dX12_beside_77 : decode cX12_beside 77 = .ok (.iconst 1, 1) := by decide +kernel
theorem dX12_beside_78 : decode cX12_beside 78 = .ok (.isub, 1) := by decide +kernel
theorem dX12_beside_79 : decode cX12_beside 79 = .ok (.invokestatic 84, 3) := by decide +kernel
theorem dX12_beside_82 : decode cX12_beside 82 = .ok (.ifCond .eq 15, 3) := by decide +kernel
theorem dX12_beside_85 : decode cX12_beside 85 = .ok (.aload_n 0, 1) := by decide +kernel
theorem dX12_beside_86 : decode cX12_beside 86 = .ok (.invokevirtual 92, 3) := by decide +kernel
theorem dX12_beside_89 : decode cX12_beside 89 = .ok (.iload 4, 2) := by decide +kernel
theorem dX12_beside_91 : decode cX12_beside 91 = .ok (.imul, 1) := by decide +kernel
theorem dX12_beside_92 : decode cX12_beside 92 = .ok (.iload_n 3, 1) := by decide +kernel
theorem dX12_beside_93 : decode cX12_beside 93 = .ok (.iadd, 1) := by decide +kernel
theorem dX12_beside_94 : decode cX12_beside 94 = .ok (.goto 4, 3) := by decide +kernel
theorem dX12_beside_97 : decode cX12_beside 97 = .ok (.iconst (-1), 1) := by decide +kernel
theorem dX12_beside_98 : decode cX12_beside 98 = .ok (.ireturn, 1) := by decide +kernel
set_option maxRecDepth 20000 in
theorem kb_163_0 : ∀ q ∈ tb_163_0, s_atx 163 yX12_beside cX12_beside q.1 q.2 := (List.forall_mem_cons.mpr ⟨⟨s_ldIn dX12_beside_0 rfl, s_mo_ldI _ _⟩, (List.forall_mem_cons.mpr ⟨⟨s_ldAn dX12_beside_1 rfl, s_mo_ldA _ _⟩, (List.forall_mem_cons.mpr ⟨⟨s_sV mk_163 mk_155 ok_155 (by decide +kernel) dX12_beside_2 w_1375 w_1377 wp_36 (Or.inr ⟨8, _, _, rfl, rfl⟩), s_h0 mk_163⟩, (List.forall_mem_cons.mpr ⟨⟨s_irem dX12_beside_5, s_mo_rem _⟩, (List.forall_mem_cons.mpr ⟨⟨s_ldIn dX12_beside_6 rfl, s_mo_ldI _ _⟩, (List.forall_mem_cons.mpr ⟨⟨s_iconst dX12_beside_7 (by decide +kernel), s_mo_push _ _⟩, (List.forall_mem_cons.mpr ⟨⟨s_icne dX12_beside_8 (by decide), s_mo_icne _ _⟩, (List.forall_mem_cons.mpr ⟨⟨s_iconst dX12_beside_11 (by decide +kernel), s_mo_push _ _⟩, (List.forall_mem_cons.mpr ⟨⟨s_goto dX12_beside_12 (by decide), s_mo_goto _⟩, (List.forall_mem_cons.mpr ⟨⟨s_ldIn dX12_beside_15 rfl, s_mo_ldI _ _⟩, (List.forall_mem_cons.mpr ⟨⟨s_iconst dX12_beside_16 (by decide +kernel), s_mo_push _ _⟩, (List.forall_mem_cons.mpr ⟨⟨s_icne dX12_beside_17 (by decide), s_mo_icne _ _⟩, (List.forall_mem_cons.mpr ⟨⟨s_iconst dX12_beside_20 (by decide +kernel), s_mo_push _ _⟩, (List.forall_mem_cons.mpr ⟨⟨s_goto dX12_beside_21 (by decide), s_mo_goto _⟩, (List.forall_mem_cons.mpr ⟨⟨s_iconst dX12_beside_24 (by decide +kernel), s_mo_push _ _⟩, (List.forall_mem_cons.mpr ⟨⟨s_iadd dX12_beside_25, s_mo_bin _ _⟩, (List.forall_mem_cons.mpr ⟨⟨s_stIn dX12_beside_26 rfl, s_mo_stI _ _⟩, (List.forall_mem_cons.mpr ⟨⟨s_ldIn dX12_beside_27 rfl, s_mo_ldI _ _⟩, (List.forall_mem_cons.mpr ⟨⟨s_ldAn dX12_beside_28 rfl, s_mo_ldA _ _⟩, (List.forall_mem_cons.mpr ⟨⟨s_sV mk_163 mk_155 ok_155 (by decide +kernel) dX12_beside_29 w_1375 w_1377 wp_36 (Or.inr ⟨8, _, _, rfl, rfl⟩), s_h0 mk_163⟩, (List.forall_mem_cons.mpr ⟨⟨s_idiv dX12_beside_32, s_mo_div _⟩, (List.forall_mem_cons.mpr ⟨⟨s_ldIn dX12_beside_33 rfl, s_mo_ldI _ _⟩, (List.forall_mem_cons.mpr ⟨⟨s_iconst dX12_beside_34 (by decide +kernel), s_mo_push _ _⟩, (List.forall_mem_cons.mpr ⟨⟨s_icne dX12_beside_35 (by decide), s_mo_icne _ _⟩, (List.forall_mem_cons.mpr ⟨⟨s_iconst dX12_beside_38 (by decide +kernel), s_mo_push _ _⟩, (List.forall_mem_cons.mpr ⟨⟨s_goto dX12_beside_39 (by decide), s_mo_goto _⟩, (List.forall_mem_cons.mpr ⟨⟨s_ldIn dX12_beside_42 rfl, s_mo_ldI _ _⟩, (List.forall_mem_cons.mpr ⟨⟨s_ifne dX12_beside_43 (by decide), s_mo_ifne _ _⟩, (List.forall_mem_cons.mpr ⟨⟨s_iconst dX12_beside_46 (by decide +kernel), s_mo_push _ _⟩, (List.forall_mem_cons.mpr ⟨⟨s_goto dX12_beside_47 (by decide), s_mo_goto _⟩, (List.forall_mem_cons.mpr ⟨⟨s_iconst dX12_beside_50 (by decide +kernel), s_mo_push _ _⟩, (List.forall_mem_cons.mpr ⟨⟨s_iadd dX12_beside_51, s_mo_bin _ _⟩, (List.forall_mem_cons.mpr ⟨⟨s_stI dX12_beside_52, s_mo_stI _ _⟩, (List.forall_mem_cons.mpr ⟨⟨s_ldIn dX12_beside_54 rfl, s_mo_ldI _ _⟩, (List.forall_mem_cons.mpr ⟨⟨s_iconst dX12_beside_55 (by decide +kernel), s_mo_push _ _⟩, (List.forall_mem_cons.mpr ⟨⟨s_ldAn dX12_beside_56 rfl, s_mo_ldA _ _⟩, (List.forall_mem_cons.mpr ⟨⟨s_sV mk_163 mk_155 ok_155 (by decide +kernel) dX12_beside_57 w_1375 w_1377 wp_36 (Or.inr ⟨8, _, _, rfl, rfl⟩), s_h0 mk_163⟩, (List.forall_mem_cons.mpr ⟨⟨s_iconst dX12_beside_60 (by decide +kernel), s_mo_push _ _⟩, (List.forall_mem_cons.mpr ⟨⟨s_isub dX12_beside_61, s_mo_bin _ _⟩, (List.forall_mem_cons.mpr ⟨⟨s_sS mk_163 mk_150 ok_150 (by decide +kernel) dX12_beside_62 w_1458 w_1459, s_h0 mk_163⟩, (fun _ h => absurd h List.not_mem_nil)⟩)⟩)⟩)⟩)⟩)⟩)⟩)⟩)⟩)⟩)⟩)⟩)⟩)⟩)⟩)⟩)⟩)⟩)⟩)⟩)⟩)⟩)⟩)⟩)⟩)⟩)⟩)⟩)⟩)⟩)⟩)⟩)⟩)⟩)⟩)⟩)⟩)⟩)⟩)⟩)
set_option maxRecDepth 20000 in
theorem kb_163_1 : ∀ q ∈ tb_163_1, s_atx 163 yX12_beside cX12_beside q.1 q.2 := (List.forall_mem_cons.mpr ⟨⟨s_ifeq dX12_beside_65 (by decide), s_mo_ifeq _ _⟩, (List.forall_mem_cons.mpr ⟨⟨s_ldI dX12_beside_68, s_mo_ldI _ _⟩, (List.forall_mem_cons.mpr ⟨⟨s_iconst dX12_beside_70 (by decide +kernel), s_mo_push _ _⟩, (List.forall_mem_cons.mpr ⟨⟨s_ldAn dX12_beside_71 rfl, s_mo_ldA _ _⟩, (List.forall_mem_cons.mpr ⟨⟨s_getf (ci := 8) (k := 1) rfl (by decide) inX12 w_1222 dX12_beside_72, s_mo_getf _ _ _⟩, (List.forall_mem_cons.mpr ⟨⟨s_iconst dX12_beside_75 (by decide +kernel), s_mo_push _ _⟩, (List.forall_mem_cons.mpr ⟨⟨s_iald dX12_beside_76, s_mo_iald _⟩, (List.forall_mem_cons.mpr ⟨⟨s_iconst dX12_beside_77 (by decide +kernel), s_mo_push _ _⟩, (List.forall_mem_cons.mpr ⟨⟨s_isub dX12_beside_78, s_mo_bin _ _⟩, (List.forall_mem_cons.mpr ⟨⟨s_sS mk_163 mk_150 ok_150 (by decide +kernel) dX12_beside_79 w_1458 w_1459, s_h0 mk_163⟩, (List.forall_mem_cons.mpr ⟨⟨s_ifeq dX12_beside_82 (by decide), s_mo_ifeq _ _⟩, (List.forall_mem_cons.mpr ⟨⟨s_ldAn dX12_beside_85 rfl, s_mo_ldA _ _⟩, (List.forall_mem_cons.mpr ⟨⟨s_sV mk_163 mk_155 ok_155 (by decide +kernel) dX12_beside_86 w_1375 w_1377 wp_36 (Or.inr ⟨8, _, _, rfl, rfl⟩), s_h0 mk_163⟩, (List.forall_mem_cons.mpr ⟨⟨s_ldI dX12_beside_89, s_mo_ldI _ _⟩, (List.forall_mem_cons.mpr ⟨⟨s_imul dX12_beside_91, s_mo_bin _ _⟩, (List.forall_mem_cons.mpr ⟨⟨s_ldIn dX12_beside_92 rfl, s_mo_ldI _ _⟩, (List.forall_mem_cons.mpr ⟨⟨s_iadd dX12_beside_93, s_mo_bin _ _⟩, (List.forall_mem_cons.mpr ⟨⟨s_goto dX12_beside_94 (by decide), s_mo_goto _⟩, (List.forall_mem_cons.mpr ⟨⟨s_iconst dX12_beside_97 (by decide +kernel), s_mo_push _ _⟩, (List.forall_mem_cons.mpr ⟨s_r1 mk_163 dX12_beside_98, (fun _ h => absurd h List.not_mem_nil)⟩)⟩)⟩)⟩)⟩)⟩)⟩)⟩)⟩)⟩)⟩)⟩)⟩)⟩)⟩)⟩)⟩)⟩)⟩)⟩)
theorem km_163 : ∀ t ∈ tm_163, s_tok 163 t := (List.forall_mem_cons.mpr ⟨s_lift mk_163 kb_163_0, (List.forall_mem_cons.mpr ⟨s_lift mk_163 kb_163_1, (fun _ h => absurd h List.not_mem_nil)⟩)⟩)
theorem dX12_has_0 : decode cX12_has 0 = .ok (.iload_n 0, 1) := by decide +kernel
theorem dX12_has_1 : decode cX12_has 1 = .ok (.iload_n 1, 1) := by decide +kernel
theorem dX12_has_2 : decode cX12_has 2 = .ok (.ishr, 1) := by decide +kernel
theorem dX12_has_3 : decode cX12_has 3 = .ok (.iconst 1, 1) := by decide +kernel
theorem dX12_has_4 : decode cX12_has 4 = .ok (.iand, 1) := by decide +kernel
theorem dX12_has_5 : decode cX12_has 5 = .ok (.iconst 1, 1) := by decide +kernel
theorem dX12_has_6 : decode cX12_has 6 = .ok (.if_icmp .ne 7, 3) := by decide +kernel
theorem dX12_has_9 : decode cX12_has 9 = .ok (.iconst 1, 1) := by decide +kernel
theorem dX12_has_10 : decode cX12_has 10 = .ok (.goto 4, 3) := by decide +kernel
theorem dX12_has_13 : decode cX12_has 13 = .ok (.iconst 0, 1) := by decide +kernel
theorem dX12_has_14 : decode cX12_has 14 = .ok (.ireturn, 1) := by decide +kernel
set_option maxRecDepth 20000 in
theorem kb_164_0 : ∀ q ∈ tb_164_0, s_atx 164 yX12_has cX12_has q.1 q.2 := (List.forall_mem_cons.mpr ⟨⟨s_ldIn dX12_has_0 rfl, s_mo_ldI _ _⟩, (List.forall_mem_cons.mpr ⟨⟨s_ldIn dX12_has_1 rfl, s_mo_ldI _ _⟩, (List.forall_mem_cons.mpr ⟨⟨s_ishr dX12_has_2, s_mo_bin _ _⟩, (List.forall_mem_cons.mpr ⟨⟨s_iconst dX12_has_3 (by decide +kernel), s_mo_push _ _⟩, (List.forall_mem_cons.mpr ⟨⟨s_iand dX12_has_4, s_mo_bin _ _⟩, (List.forall_mem_cons.mpr ⟨⟨s_iconst dX12_has_5 (by decide +kernel), s_mo_push _ _⟩, (List.forall_mem_cons.mpr ⟨⟨s_icne dX12_has_6 (by decide), s_mo_icne _ _⟩, (List.forall_mem_cons.mpr ⟨⟨s_iconst dX12_has_9 (by decide +kernel), s_mo_push _ _⟩, (List.forall_mem_cons.mpr ⟨⟨s_goto dX12_has_10 (by decide), s_mo_goto _⟩, (List.forall_mem_cons.mpr ⟨⟨s_iconst dX12_has_13 (by decide +kernel), s_mo_push _ _⟩, (List.forall_mem_cons.mpr ⟨s_r2 mk_164 dX12_has_14, (fun _ h => absurd h List.not_mem_nil)⟩)⟩)⟩)⟩)⟩)⟩)⟩)⟩)⟩)⟩)⟩)
theorem km_164 : ∀ t ∈ tm_164, s_tok 164 t := (List.forall_mem_cons.mpr ⟨s_lift mk_164 kb_164_0, (fun _ h => absurd h List.not_mem_nil)⟩)
theorem dX12_feed_0 : decode cX12_feed 0 = .ok (.aload_n 0, 1) := by decide +kernel
theorem dX12_feed_1 : decode cX12_feed 1 = .ok (.iconst 0, 1) := by decide +kernel
theorem dX12_feed_2 : decode cX12_feed 2 = .ok (.putfield 3, 3) := by decide +kernel
theorem dX12_feed_5 : decode cX12_feed 5 = .ok (.aload_n 0, 1) := by decide +kernel
theorem dX12_feed_6 : decode cX12_feed 6 = .ok (.getfield 95, 3) := by decide +kernel
theorem dX12_feed_9 : decode cX12_feed 9 = .ok (.bipush 20, 2) := by decide +kernel
theorem dX12_feed_11 : decode cX12_feed 11 = .ok (.iadd, 1) := by decide +kernel
theorem dX12_feed_12 : decode cX12_feed 12 = .ok (.sipush 400, 3) := by decide +kernel
theorem dX12_feed_15 : decode cX12_feed 15 = .ok (.if_icmp .le 5, 3) := by decide +kernel
theorem dX12_feed_18 : decode cX12_feed 18 = .ok (.iconst (-1), 1) := by decide +kernel
theorem dX12_feed_19 : decode cX12_feed 19 = .ok (.ireturn, 1) := by decide +kernel
theorem dX12_feed_20 : decode cX12_feed 20 = .ok (.aload_n 0, 1) := by decide +kernel
theorem dX12_feed_21 : decode cX12_feed 21 = .ok (.getfield 33, 3) := by decide +kernel
theorem dX12_feed_24 : decode cX12_feed 24 = .ok (.iconst 0, 1) := by decide +kernel
theorem dX12_feed_25 : decode cX12_feed 25 = .ok (.iload_n 1, 1) := by decide +kernel
theorem dX12_feed_26 : decode cX12_feed 26 = .ok (.iastore, 1) := by decide +kernel
theorem dX12_feed_27 : decode cX12_feed 27 = .ok (.aload_n 0, 1) := by decide +kernel
theorem dX12_feed_28 : decode cX12_feed 28 = .ok (.getfield 33, 3) := by decide +kernel
theorem dX12_feed_31 : decode cX12_feed 31 = .ok (.iconst 1, 1) := by decide +kernel
theorem dX12_feed_32 : decode cX12_feed 32 = .ok (.iload_n 2, 1) := by decide +kernel
theorem dX12_feed_33 : decode cX12_feed 33 = .ok (.iastore, 1) := by decide +kernel
theorem dX12_feed_34 : decode cX12_feed 34 = .ok (.aload_n 0, 1) := by decide +kernel
theorem dX12_feed_35 : decode cX12_feed 35 = .ok (.getfield 33, 3) := by decide +kernel
theorem dX12_feed_38 : decode cX12_feed 38 = .ok (.iconst 2, 1) := by decide +kernel
theorem dX12_feed_39 : decode cX12_feed 39 = .ok (.iload_n 3, 1) := by decide +kernel
theorem dX12_feed_40 : decode cX12_feed 40 = .ok (.iastore, 1) := by decide +kernel
theorem dX12_feed_41 : decode cX12_feed 41 = .ok (.aload_n 0, 1) := by decide +kernel
theorem dX12_feed_42 : decode cX12_feed 42 = .ok (.getfield 33, 3) := by decide +kernel
theorem dX12_feed_45 : decode cX12_feed 45 = .ok (.iconst 3, 1) := by decide +kernel
theorem dX12_feed_46 : decode cX12_feed 46 = .ok (.iload 4, 2) := by decide +kernel
theorem dX12_feed_48 : decode cX12_feed 48 = .ok (.iastore, 1) := by decide +kernel
theorem dX12_feed_49 : decode cX12_feed 49 = .ok (.aload_n 0, 1) := by decide +kernel
theorem dX12_feed_50 : decode cX12_feed 50 = .ok (.getfield 33, 3) := by decide +kernel
theorem dX12_feed_53 : decode cX12_feed 53 = .ok (.iconst 4, 1) := by decide +kernel
theorem dX12_feed_54 : decode cX12_feed 54 = .ok (.iload 5, 2) := by decide +kernel
theorem dX12_feed_56 : decode cX12_feed 56 = .ok (.iastore, 1) := by decide +kernel
theorem dX12_feed_57 : decode cX12_feed 57 = .ok (.iconst 0, 1) := by decide +kernel
theorem dX12_feed_58 : decode cX12_feed 58 = .ok (.istore 6, 2) := by decide +kernel
theorem dX12_feed_60 : decode cX12_feed 60 = .ok (.iload 6, 2) := by decide +kernel
theorem dX12_feed_62 : decode cX12_feed 62 = .ok (.bipush 20, 2) := by decide +kernel
theorem dX12_feed_64 : decode cX12_feed 64 = .ok (.if_icmp .ge 42, 3) := by decide +kernel
theorem dX12_feed_67 : decode cX12_feed 67 = .ok (.aload_n 0, 1) := by decide +kernel
theorem dX12_feed_68 : decode cX12_feed 68 = .ok (.getfield 26, 3) := by decide +kernel
theorem dX12_feed_71 : decode cX12_feed 71 = .ok (.aload_n 0, 1) := by decide +kernel
theorem dX12_feed_72 : decode cX12_feed 72 = .ok (.getfield 95, 3) := by decide +kernel
theorem dX12_feed_75 : decode cX12_feed 75 = .ok (.iload 6, 2) := by decide +kernel
theorem dX12_feed_77 : decode cX12_feed 77 = .ok (.iadd, 1) := by decide +kernel
theorem dX12_feed_78 : decode cX12_feed 78 = .ok (.aload_n 0, 1) := by decide +kernel
theorem dX12_feed_79 : decode cX12_feed 79 = .ok (.getfield 33, 3) := by decide +kernel
theorem dX12_feed_82 : decode cX12_feed 82 = .ok (.iload 6, 2) := by decide +kernel
theorem dX12_feed_84 : decode cX12_feed 84 = .ok (.iconst 4, 1) := by decide +kernel
theorem dX12_feed_85 : decode cX12_feed 85 = .ok (.idiv, 1) := by decide +kernel
theorem dX12_feed_86 : decode cX12_feed 86 = .ok (.iaload, 1) := by decide +kernel
theorem dX12_feed_87 : decode cX12_feed 87 = .ok (.bipush 24, 2) := by decide +kernel
theorem dX12_feed_89 : decode cX12_feed 89 = .ok (.bipush 8, 2) := by decide +kernel
theorem dX12_feed_91 : decode cX12_feed 91 = .ok (.iload 6, 2) := by decide +kernel
theorem dX12_feed_93 : decode cX12_feed 93 = .ok (.iconst 4, 1) := by decide +kernel
theorem dX12_feed_94 : decode cX12_feed 94 = .ok (.irem, 1) := by decide +kernel
theorem dX12_feed_95 : decode cX12_feed 95 = .ok (.imul, 1) := by decide +kernel
theorem dX12_feed_96 : decode cX12_feed 96 = .ok (.isub, 1) := by decide +kernel
theorem dX12_feed_97 : decode cX12_feed 97 = .ok (.ishr, 1) := by decide +kernel
theorem dX12_feed_98 : decode cX12_feed 98 = .ok (.i2b, 1) := by decide +kernel
theorem dX12_feed_99 : decode cX12_feed 99 = .ok (.bastore, 1) := by decide +kernel
theorem dX12_feed_100 : decode cX12_feed 100 = .ok (.iinc 6 1, 3) := by decide +kernel
theorem dX12_feed_103 : decode cX12_feed 103 = .ok (.goto (-43), 3) := by decide +kernel
theorem dX12_feed_106 : decode cX12_feed 106 = .ok (.aload_n 0, 1) := by decide +kernel
theorem dX12_feed_107 : decode cX12_feed 107 = .ok (.dup, 1) := by decide +kernel
theorem dX12_feed_108 : decode cX12_feed 108 = .ok (.getfield 95, 3) := by decide +kernel
theorem dX12_feed_111 : decode cX12_feed 111 = .ok (.bipush 20, 2) := by decide +kernel
theorem dX12_feed_113 : decode cX12_feed 113 = .ok (.iadd, 1) := by decide +kernel
theorem dX12_feed_114 : decode cX12_feed 114 = .ok (.putfield 95, 3) := by decide +kernel
theorem dX12_feed_117 : decode cX12_feed 117 = .ok (.aload_n 0, 1) := by decide +kernel
theorem dX12_feed_118 : decode cX12_feed 118 = .ok (.getfield 95, 3) := by decide +kernel
theorem dX12_feed_121 : decode cX12_feed 121 = .ok (.ireturn, 1) := by decide +kernel
set_option maxRecDepth 20000 in
theorem kb_165_0 : ∀ q ∈ tb_165_0, s_atx 165 yX12_feed cX12_feed q.1 q.2 := (List.forall_mem_cons.mpr ⟨⟨s_ldAn dX12_feed_0 rfl, s_mo_ldA _ _⟩, (List.forall_mem_cons.mpr ⟨⟨s_iconst dX12_feed_1 (by decide +kernel), s_mo_push _ _⟩, (List.forall_mem_cons.mpr ⟨⟨s_putI (ci := 8) (k := 0) rfl (by decide) inX12 tyX12_ok nmX12 rfl rfl w_1221 dX12_feed_2, s_mo_putI _ _ _⟩, (List.forall_mem_cons.mpr ⟨⟨s_ldAn dX12_feed_5 rfl, s_mo_ldA _ _⟩, (List.forall_mem_cons.mpr ⟨⟨s_getf (ci := 8) (k := 8) rfl (by decide) inX12 w_1229 dX12_feed_6, s_mo_getf _ _ _⟩, (List.forall_mem_cons.mpr ⟨⟨s_bipush dX12_feed_9 (by decide +kernel), s_mo_push _ _⟩, (List.forall_mem_cons.mpr ⟨⟨s_iadd dX12_feed_11, s_mo_bin _ _⟩, (List.forall_mem_cons.mpr ⟨⟨s_sipush dX12_feed_12 (by decide +kernel), s_mo_push _ _⟩, (List.forall_mem_cons.mpr ⟨⟨s_icle dX12_feed_15 (by decide), s_mo_icle _ _⟩, (List.forall_mem_cons.mpr ⟨⟨s_iconst dX12_feed_18 (by decide +kernel), s_mo_push _ _⟩, (List.forall_mem_cons.mpr ⟨s_r1 mk_165 dX12_feed_19, (List.forall_mem_cons.mpr ⟨⟨s_ldAn dX12_feed_20 rfl, s_mo_ldA _ _⟩, (List.forall_mem_cons.mpr ⟨⟨s_getf (ci := 8) (k := 14) rfl (by decide) inX12 w_1235 dX12_feed_21, s_mo_getf _ _ _⟩, (List.forall_mem_cons.mpr ⟨⟨s_iconst dX12_feed_24 (by decide +kernel), s_mo_push _ _⟩, (List.forall_mem_cons.mpr ⟨⟨s_ldIn dX12_feed_25 rfl, s_mo_ldI _ _⟩, (List.forall_mem_cons.mpr ⟨⟨s_iast dX12_feed_26, s_mo_iast _⟩, (List.forall_mem_cons.mpr ⟨⟨s_ldAn dX12_feed_27 rfl, s_mo_ldA _ _⟩, (List.forall_mem_cons.mpr ⟨⟨s_getf (ci := 8) (k := 14) rfl (by decide) inX12 w_1235 dX12_feed_28, s_mo_getf _ _ _⟩, (List.forall_mem_cons.mpr ⟨⟨s_iconst dX12_feed_31 (by decide +kernel), s_mo_push _ _⟩, (List.forall_mem_cons.mpr ⟨⟨s_ldIn dX12_feed_32 rfl, s_mo_ldI _ _⟩, (List.forall_mem_cons.mpr ⟨⟨s_iast dX12_feed_33, s_mo_iast _⟩, (List.forall_mem_cons.mpr ⟨⟨s_ldAn dX12_feed_34 rfl, s_mo_ldA _ _⟩, (List.forall_mem_cons.mpr ⟨⟨s_getf (ci := 8) (k := 14) rfl (by decide) inX12 w_1235 dX12_feed_35, s_mo_getf _ _ _⟩, (List.forall_mem_cons.mpr ⟨⟨s_iconst dX12_feed_38 (by decide +kernel), s_mo_push _ _⟩, (List.forall_mem_cons.mpr ⟨⟨s_ldIn dX12_feed_39 rfl, s_mo_ldI _ _⟩, (List.forall_mem_cons.mpr ⟨⟨s_iast dX12_feed_40, s_mo_iast _⟩, (List.forall_mem_cons.mpr ⟨⟨s_ldAn dX12_feed_41 rfl, s_mo_ldA _ _⟩, (List.forall_mem_cons.mpr ⟨⟨s_getf (ci := 8) (k := 14) rfl (by decide) inX12 w_1235 dX12_feed_42, s_mo_getf _ _ _⟩, (List.forall_mem_cons.mpr ⟨⟨s_iconst dX12_feed_45 (by decide +kernel), s_mo_push _ _⟩, (List.forall_mem_cons.mpr ⟨⟨s_ldI dX12_feed_46, s_mo_ldI _ _⟩, (List.forall_mem_cons.mpr ⟨⟨s_iast dX12_feed_48, s_mo_iast _⟩, (List.forall_mem_cons.mpr ⟨⟨s_ldAn dX12_feed_49 rfl, s_mo_ldA _ _⟩, (List.forall_mem_cons.mpr ⟨⟨s_getf (ci := 8) (k := 14) rfl (by decide) inX12 w_1235 dX12_feed_50, s_mo_getf _ _ _⟩, (List.forall_mem_cons.mpr ⟨⟨s_iconst dX12_feed_53 (by decide +kernel), s_mo_push _ _⟩, (List.forall_mem_cons.mpr ⟨⟨s_ldI dX12_feed_54, s_mo_ldI _ _⟩, (List.forall_mem_cons.mpr ⟨⟨s_iast dX12_feed_56, s_mo_iast _⟩, (List.forall_mem_cons.mpr ⟨⟨s_iconst dX12_feed_57 (by decide +kernel), s_mo_push _ _⟩, (List.forall_mem_cons.mpr ⟨⟨s_stI dX12_feed_58, s_mo_stI _ _⟩, (List.forall_mem_cons.mpr ⟨⟨s_ldI dX12_feed_60, s_mo_ldI _ _⟩, (List.forall_mem_cons.mpr ⟨⟨s_bipush dX12_feed_62 (by decide +kernel), s_mo_push _ _⟩, (fun _ h => absurd h List.not_mem_nil)⟩)⟩)⟩)⟩)⟩)⟩)⟩)⟩)⟩)⟩)⟩)⟩)⟩)⟩)⟩)⟩)⟩)⟩)⟩)⟩)⟩)⟩)⟩)⟩)⟩)⟩)⟩)⟩)⟩)⟩)⟩)⟩)⟩)⟩)⟩)⟩)⟩)⟩)⟩)⟩)
set_option maxRecDepth 20000 in
theorem kb_165_1 : ∀ q ∈ tb_165_1, s_atx 165 yX12_feed cX12_feed q.1 q.2 := (List.forall_mem_cons.mpr ⟨⟨s_icge dX12_feed_64 (by decide), s_mo_icge _ _⟩, (List.forall_mem_cons.mpr ⟨⟨s_ldAn dX12_feed_67 rfl, s_mo_ldA _ _⟩, (List.forall_mem_cons.mpr ⟨⟨s_getf (ci := 8) (k := 7) rfl (by decide) inX12 w_1228 dX12_feed_68, s_mo_getf _ _ _⟩, (List.forall_mem_cons.mpr ⟨⟨s_ldAn dX12_feed_71 rfl, s_mo_ldA _ _⟩, (List.forall_mem_cons.mpr ⟨⟨s_getf (ci := 8) (k := 8) rfl (by decide) inX12 w_1229 dX12_feed_72, s_mo_getf _ _ _⟩, (List.forall_mem_cons.mpr ⟨⟨s_ldI dX12_feed_75, s_mo_ldI _ _⟩, (List.forall_mem_cons.mpr ⟨⟨s_iadd dX12_feed_77, s_mo_bin _ _⟩, (List.forall_mem_cons.mpr ⟨⟨s_ldAn dX12_feed_78 rfl, s_mo_ldA _ _⟩, (List.forall_mem_cons.mpr ⟨⟨s_getf (ci := 8) (k := 14) rfl (by decide) inX12 w_1235 dX12_feed_79, s_mo_getf _ _ _⟩, (List.forall_mem_cons.mpr ⟨⟨s_ldI dX12_feed_82, s_mo_ldI _ _⟩, (List.forall_mem_cons.mpr ⟨⟨s_iconst dX12_feed_84 (by decide +kernel), s_mo_push _ _⟩, (List.forall_mem_cons.mpr ⟨⟨s_idiv dX12_feed_85, s_mo_div _⟩, (List.forall_mem_cons.mpr ⟨⟨s_iald dX12_feed_86, s_mo_iald _⟩, (List.forall_mem_cons.mpr ⟨⟨s_bipush dX12_feed_87 (by decide +kernel), s_mo_push _ _⟩, (List.forall_mem_cons.mpr ⟨⟨s_bipush dX12_feed_89 (by decide +kernel), s_mo_push _ _⟩, (List.forall_mem_cons.mpr ⟨⟨s_ldI dX12_feed_91, s_mo_ldI _ _⟩, (List.forall_mem_cons.mpr ⟨⟨s_iconst dX12_feed_93 (by decide +kernel), s_mo_push _ _⟩, (List.forall_mem_cons.mpr ⟨⟨s_irem dX12_feed_94, s_mo_rem _⟩, (List.forall_mem_cons.mpr ⟨⟨s_imul dX12_feed_95, s_mo_bin _ _⟩, (List.forall_mem_cons.mpr ⟨⟨s_isub dX12_feed_96, s_mo_bin _ _⟩, (List.forall_mem_cons.mpr ⟨⟨s_ishr dX12_feed_97, s_mo_bin _ _⟩, (List.forall_mem_cons.mpr ⟨⟨s_i2b dX12_feed_98, s_mo_un _ _⟩, (List.forall_mem_cons.mpr ⟨⟨s_bast dX12_feed_99, s_mo_bast _⟩, (List.forall_mem_cons.mpr ⟨⟨s_inc dX12_feed_100 (by decide +kernel), s_mo_inc _ _ _⟩, (List.forall_mem_cons.mpr ⟨⟨s_goto dX12_feed_103 (by decide), s_mo_goto _⟩, (List.forall_mem_cons.mpr ⟨⟨s_ldAn dX12_feed_106 rfl, s_mo_ldA _ _⟩, (List.forall_mem_cons.mpr ⟨⟨s_dup dX12_feed_107, s_mo_dup _⟩, (List.forall_mem_cons.mpr ⟨⟨s_getf (ci := 8) (k := 8) rfl (by decide) inX12 w_1229 dX12_feed_108, s_mo_getf _ _ _⟩, (List.forall_mem_cons.mpr ⟨⟨s_bipush dX12_feed_111 (by decide +kernel), s_mo_push _ _⟩, (List.forall_mem_cons.mpr ⟨⟨s_iadd dX12_feed_113, s_mo_bin _ _⟩, (List.forall_mem_cons.mpr ⟨⟨s_putI (ci := 8) (k := 8) rfl (by decide) inX12 tyX12_ok nmX12 rfl rfl w_1229 dX12_feed_114, s_mo_putI _ _ _⟩, (List.forall_mem_cons.mpr ⟨⟨s_ldAn dX12_feed_117 rfl, s_mo_ldA _ _⟩, (List.forall_mem_cons.mpr ⟨⟨s_getf (ci := 8) (k := 8) rfl (by decide) inX12 w_1229 dX12_feed_118, s_mo_getf _ _ _⟩, (List.forall_mem_cons.mpr ⟨s_r1 mk_165 dX12_feed_121, (fun _ h => absurd h List.not_mem_nil)⟩)⟩)⟩)⟩)⟩)⟩)⟩)⟩)⟩)⟩)⟩)⟩)⟩)⟩)⟩)⟩)⟩)⟩)⟩)⟩)⟩)⟩)⟩)⟩)⟩)⟩)⟩)⟩)⟩)⟩)⟩)⟩)⟩)⟩)
theorem km_165 : ∀ t ∈ tm_165, s_tok 165 t := (List.forall_mem_cons.mpr ⟨s_lift mk_165 kb_165_0, (List.forall_mem_cons.mpr ⟨s_lift mk_165 kb_165_1, (fun _ h => absurd h List.not_mem_nil)⟩)⟩)
theorem dX12_end_0 : decode cX12_end 0 = .ok (.aload_n 0, 1) := by decide +kernel
theorem dX12_end_1 : decode cX12_end 1 = .ok (.iconst 0, 1) := by decide +kernel
theorem dX12_end_2 : decode cX12_end 2 = .ok (.putfield 3, 3) := by decide +kernel
theorem dX12_end_5 : decode cX12_end 5 = .ok (.iload_n 1, 1) := by decide +kernel
theorem dX12_end_6 : decode cX12_end 6 = .ok (.ifCond .lt 11, 3) := by decide +kernel
theorem dX12_end_9 : decode cX12_end 9 = .ok (.iload_n 1, 1) := by decide +kernel
theorem dX12_end_10 : decode cX12_end 10 = .ok (.aload_n 0, 1) := by decide +kernel
theorem dX12_end_11 : decode cX12_end 11 = .ok (.getfield 95, 3) := by decide +kernel
theorem dX12_end_14 : decode cX12_end 14 = .ok (.if_icmp .le 5, 3) := by decide +kernel
theorem dX12_end_17 : decode cX12_end 17 = .ok (.iconst 0, 1) := by decide +kernel
theorem dX12_end_18 : decode cX12_end 18 = .ok (.ireturn, 1) := by decide +kernel
theorem dX12_end_19 : decode cX12_end 19 = .ok (.aload_n 0, 1) := by decide +kernel
theorem dX12_end_20 : decode cX12_end 20 = .ok (.iload_n 1, 1) := by decide +kernel
theorem dX12_end_21 : decode cX12_end 21 = .ok (.putfield 95, 3) := by decide +kernel
theorem dX12_end_24 : decode cX12_end 24 = .ok (.iconst 1, 1) := by decide +kernel
theorem dX12_end_25 : decode cX12_end 25 = .ok (.ireturn, 1) := by decide +kernel
set_option maxRecDepth 20000 in
theorem kb_166_0 : ∀ q ∈ tb_166_0, s_atx 166 yX12_end cX12_end q.1 q.2 := (List.forall_mem_cons.mpr ⟨⟨s_ldAn dX12_end_0 rfl, s_mo_ldA _ _⟩, (List.forall_mem_cons.mpr ⟨⟨s_iconst dX12_end_1 (by decide +kernel), s_mo_push _ _⟩, (List.forall_mem_cons.mpr ⟨⟨s_putI (ci := 8) (k := 0) rfl (by decide) inX12 tyX12_ok nmX12 rfl rfl w_1221 dX12_end_2, s_mo_putI _ _ _⟩, (List.forall_mem_cons.mpr ⟨⟨s_ldIn dX12_end_5 rfl, s_mo_ldI _ _⟩, (List.forall_mem_cons.mpr ⟨⟨s_iflt dX12_end_6 (by decide), s_mo_iflt _ _⟩, (List.forall_mem_cons.mpr ⟨⟨s_ldIn dX12_end_9 rfl, s_mo_ldI _ _⟩, (List.forall_mem_cons.mpr ⟨⟨s_ldAn dX12_end_10 rfl, s_mo_ldA _ _⟩, (List.forall_mem_cons.mpr ⟨⟨s_getf (ci := 8) (k := 8) rfl (by decide) inX12 w_1229 dX12_end_11, s_mo_getf _ _ _⟩, (List.forall_mem_cons.mpr ⟨⟨s_icle dX12_end_14 (by decide), s_mo_icle _ _⟩, (List.forall_mem_cons.mpr ⟨⟨s_iconst dX12_end_17 (by decide +kernel), s_mo_push _ _⟩, (List.forall_mem_cons.mpr ⟨s_r2 mk_166 dX12_end_18, (List.forall_mem_cons.mpr ⟨⟨s_ldAn dX12_end_19 rfl, s_mo_ldA _ _⟩, (List.forall_mem_cons.mpr ⟨⟨s_ldIn dX12_end_20 rfl, s_mo_ldI _ _⟩, (List.forall_mem_cons.mpr ⟨⟨s_putI (ci := 8) (k := 8) rfl (by decide) inX12 tyX12_ok nmX12 rfl rfl w_1229 dX12_end_21, s_mo_putI _ _ _⟩, (List.forall_mem_cons.mpr ⟨⟨s_iconst dX12_end_24 (by decide +kernel), s_mo_push _ _⟩, (List.forall_mem_cons.mpr ⟨s_r2 mk_166 dX12_end_25, (fun _ h => absurd h List.not_mem_nil)⟩)⟩)⟩)⟩)⟩)⟩)⟩)⟩)⟩)⟩)⟩)⟩)⟩)⟩)⟩)⟩)
theorem km_166 : ∀ t ∈ tm_166, s_tok 166 t := (List.forall_mem_cons.mpr ⟨s_lift mk_166 kb_166_0, (fun _ h => absurd h List.not_mem_nil)⟩)
theorem dX12_isAt_0 : decode cX12_isAt 0 = .ok (.aload_n 0, 1) := by decide +kernel
theorem dX12_isAt_1 : decode cX12_isAt 1 = .ok (.getfield 98, 3) := by decide +kernel
theorem dX12_isAt_4 : decode cX12_isAt 4 = .ok (.aload_n 0, 1) := by decide +kernel
theorem dX12_isAt_5 : decode cX12_isAt 5 = .ok (.getfield 101, 3) := by decide +kernel
theorem dX12_isAt_8 : decode cX12_isAt 8 = .ok (.if_icmp .ge 33, 3) := by decide +kernel
theorem dX12_isAt_11 : decode cX12_isAt 11 = .ok (.aload_n 0, 1) := by decide +kernel
theorem dX12_isAt_12 : decode cX12_isAt 12 = .ok (.getfield 26, 3) := by decide +kernel
theorem dX12_isAt_15 : decode cX12_isAt 15 = .ok (.aload_n 0, 1) := by decide +kernel
theorem dX12_isAt_16 : decode cX12_isAt 16 = .ok (.getfield 98, 3) := by decide +kernel
theorem dX12_isAt_19 : decode cX12_isAt 19 = .ok (.baload, 1) := by decide +kernel
theorem dX12_isAt_20 : decode cX12_isAt 20 = .ok (.iload_n 1, 1) := by decide +kernel
theorem dX12_isAt_21 : decode cX12_isAt 21 = .ok (.if_icmp .lt 20, 3) := by decide +kernel
theorem dX12_isAt_24 : decode cX12_isAt 24 = .ok (.aload_n 0, 1) := by decide +kernel
theorem dX12_isAt_25 : decode cX12_isAt 25 = .ok (.getfield 26, 3) := by decide +kernel
theorem dX12_isAt_28 : decode cX12_isAt 28 = .ok (.aload_n 0, 1) := by decide +kernel
theorem dX12_isAt_29 : decode cX12_isAt 29 = .ok (.getfield 98, 3) := by decide +kernel
theorem dX12_isAt_32 : decode cX12_isAt 32 = .ok (.baload, 1) := by decide +kernel
theorem dX12_isAt_33 : decode cX12_isAt 33 = .ok (.iload_n 2, 1) := by decide +kernel
theorem dX12_isAt_34 : decode cX12_isAt 34 = .ok (.if_icmp .gt 7, 3) := by decide +kernel
theorem dX12_isAt_37 : decode cX12_isAt 37 = .ok (.iconst 1, 1) := by decide +kernel
theorem dX12_isAt_38 : decode cX12_isAt 38 = .ok (.goto 4, 3) := by decide +kernel
theorem dX12_isAt_41 : decode cX12_isAt 41 = .ok (.iconst 0, 1) := by decide +kernel
theorem dX12_isAt_42 : decode cX12_isAt 42 = .ok (.ireturn, 1) := by decide +kernel
set_option maxRecDepth 20000 in
theorem kb_167_0 : ∀ q ∈ tb_167_0, s_atx 167 yX12_isAt cX12_isAt q.1 q.2 := (List.forall_mem_cons.mpr ⟨⟨s_ldAn dX12_isAt_0 rfl, s_mo_ldA _ _⟩, (List.forall_mem_cons.mpr ⟨⟨s_getf (ci := 8) (k := 9) rfl (by decide) inX12 w_1230 dX12_isAt_1, s_mo_getf _ _ _⟩, (List.forall_mem_cons.mpr ⟨⟨s_ldAn dX12_isAt_4 rfl, s_mo_ldA _ _⟩, (List.forall_mem_cons.mpr ⟨⟨s_getf (ci := 8) (k := 10) rfl (by decide) inX12 w_1231 dX12_isAt_5, s_mo_getf _ _ _⟩, (List.forall_mem_cons.mpr ⟨⟨s_icge dX12_isAt_8 (by decide), s_mo_icge _ _⟩, (List.forall_mem_cons.mpr ⟨⟨s_ldAn dX12_isAt_11 rfl, s_mo_ldA _ _⟩, (List.forall_mem_cons.mpr ⟨⟨s_getf (ci := 8) (k := 7) rfl (by decide) inX12 w_1228 dX12_isAt_12, s_mo_getf _ _ _⟩, (List.forall_mem_cons.mpr ⟨⟨s_ldAn dX12_isAt_15 rfl, s_mo_ldA _ _⟩, (List.forall_mem_cons.mpr ⟨⟨s_getf (ci := 8) (k := 9) rfl (by decide) inX12 w_1230 dX12_isAt_16, s_mo_getf _ _ _⟩, (List.forall_mem_cons.mpr ⟨⟨s_bald dX12_isAt_19, s_mo_bald _⟩, (List.forall_mem_cons.mpr ⟨⟨s_ldIn dX12_isAt_20 rfl, s_mo_ldI _ _⟩, (List.forall_mem_cons.mpr ⟨⟨s_iclt dX12_isAt_21 (by decide), s_mo_iclt _ _⟩, (List.forall_mem_cons.mpr ⟨⟨s_ldAn dX12_isAt_24 rfl, s_mo_ldA _ _⟩, (List.forall_mem_cons.mpr ⟨⟨s_getf (ci := 8) (k := 7) rfl (by decide) inX12 w_1228 dX12_isAt_25, s_mo_getf _ _ _⟩, (List.forall_mem_cons.mpr ⟨⟨s_ldAn dX12_isAt_28 rfl, s_mo_ldA _ _⟩, (List.forall_mem_cons.mpr ⟨⟨s_getf (ci := 8) (k := 9) rfl (by decide) inX12 w_1230 dX12_isAt_29, s_mo_getf _ _ _⟩, (List.forall_mem_cons.mpr ⟨⟨s_bald dX12_isAt_32, s_mo_bald _⟩, (List.forall_mem_cons.mpr ⟨⟨s_ldIn dX12_isAt_33 rfl, s_mo_ldI _ _⟩, (List.forall_mem_cons.mpr ⟨⟨s_icgt dX12_isAt_34 (by decide), s_mo_icgt _ _⟩, (List.forall_mem_cons.mpr ⟨⟨s_iconst dX12_isAt_37 (by decide +kernel), s_mo_push _ _⟩, (List.forall_mem_cons.mpr ⟨⟨s_goto dX12_isAt_38 (by decide), s_mo_goto _⟩, (List.forall_mem_cons.mpr ⟨⟨s_iconst dX12_isAt_41 (by decide +kernel), s_mo_push _ _⟩, (List.forall_mem_cons.mpr ⟨s_r2 mk_167 dX12_isAt_42, (fun _ h => absurd h List.not_mem_nil)⟩)⟩)⟩)⟩)⟩)⟩)⟩)⟩)⟩)⟩)⟩)⟩)⟩)⟩)⟩)⟩)⟩)⟩)⟩)⟩)⟩)⟩)⟩)
theorem km_167 : ∀ t ∈ tm_167, s_tok 167 t := (List.forall_mem_cons.mpr ⟨s_lift mk_167 kb_167_0, (fun _ h => absurd h List.not_mem_nil)⟩)
theorem dX12_blanks_0 : decode cX12_blanks 0 = .ok (.aload_n 0, 1) := by decide +kernel
theorem dX12_blanks_1 : decode cX12_blanks 1 = .ok (.bipush 32, 2) := by decide +kernel
theorem dX12_blanks_3 : decode cX12_blanks 3 = .ok (.bipush 32, 2) := by decide +kernel
theorem dX12_blanks_5 : decode cX12_blanks 5 = .ok (.invokevirtual 104, 3) := by decide +kernel
theorem dX12_blanks_8 : decode cX12_blanks 8 = .ok (.ifCond .eq 16, 3) := by decide +kernel
theorem dX12_blanks_11 : decode cX12_blanks 11 = .ok (.aload_n 0, 1) := by decide +kernel
theorem dX12_blanks_12 : decode cX12_blanks 12 = .ok (.dup, 1) := by decide +kernel
theorem dX12_blanks_13 : decode cX12_blanks 13 = .ok (.getfield 98, 3) := by decide +kernel
theorem dX12_blanks_16 : decode cX12_blanks 16 = .ok (.iconst 1, 1) := by decide +kernel
theorem dX12_blanks_17 : decode cX12_blanks 17 = .ok (.iadd, 1) := by decide +kernel
theorem dX12_blanks_18 : decode cX12_blanks 18 = .ok (.putfield 98, 3) := by decide +kernel
theorem dX12_blanks_21 : decode cX12_blanks 21 = .ok (.goto (-21), 3) := by decide +kernel
theorem dX12_blanks_24 : decode cX12_blanks 24 = .ok (.aload_n 0, 1) := by decide +kernel
theorem dX12_blanks_25 : decode cX12_blanks 25 = .ok (.aload_n 0, 1) := by decide +kernel
theorem dX12_blanks_26 : decode cX12_blanks 26 = .ok (.getfield 98, 3) := by decide +kernel
theorem dX12_blanks_29 : decode cX12_blanks 29 = .ok (.putfield 108, 3) := by decide +kernel
theorem dX12_blanks_32 : decode cX12_blanks 32 = .ok (.return_, 1) := by decide +kernel
set_option maxRecDepth 20000 in
theorem kb_168_0 : ∀ q ∈ tb_168_0, s_atx 168 yX12_blanks cX12_blanks q.1 q.2 := (List.forall_mem_cons.mpr ⟨⟨s_ldAn dX12_blanks_0 rfl, s_mo_ldA _ _⟩, (List.forall_mem_cons.mpr ⟨⟨s_bipush dX12_blanks_1 (by decide +kernel), s_mo_push _ _⟩, (List.forall_mem_cons.mpr ⟨⟨s_bipush dX12_blanks_3 (by decide +kernel), s_mo_push _ _⟩, (List.forall_mem_cons.mpr ⟨⟨s_sV mk_168 mk_167 ok_167 (by decide +kernel) dX12_blanks_5 w_1335 w_1337 wp_27 (Or.inr ⟨8, _, _, rfl, rfl⟩), s_h0 mk_168⟩, (List.forall_mem_cons.mpr ⟨⟨s_ifeq dX12_blanks_8 (by decide), s_mo_ifeq _ _⟩, (List.forall_mem_cons.mpr ⟨⟨s_ldAn dX12_blanks_11 rfl, s_mo_ldA _ _⟩, (List.forall_mem_cons.mpr ⟨⟨s_dup dX12_blanks_12, s_mo_dup _⟩, (List.forall_mem_cons.mpr ⟨⟨s_getf (ci := 8) (k := 9) rfl (by decide) inX12 w_1230 dX12_blanks_13, s_mo_getf _ _ _⟩, (List.forall_mem_cons.mpr ⟨⟨s_iconst dX12_blanks_16 (by decide +kernel), s_mo_push _ _⟩, (List.forall_mem_cons.mpr ⟨⟨s_iadd dX12_blanks_17, s_mo_bin _ _⟩, (List.forall_mem_cons.mpr ⟨⟨s_putI (ci := 8) (k := 9) rfl (by decide) inX12 tyX12_ok nmX12 rfl rfl w_1230 dX12_blanks_18, s_mo_putI _ _ _⟩, (List.forall_mem_cons.mpr ⟨⟨s_goto dX12_blanks_21 (by decide), s_mo_goto _⟩, (List.forall_mem_cons.mpr ⟨⟨s_ldAn dX12_blanks_24 rfl, s_mo_ldA _ _⟩, (List.forall_mem_cons.mpr ⟨⟨s_ldAn dX12_blanks_25 rfl, s_mo_ldA _ _⟩, (List.forall_mem_cons.mpr ⟨⟨s_getf (ci := 8) (k := 9) rfl (by decide) inX12 w_1230 dX12_blanks_26, s_mo_getf _ _ _⟩, (List.forall_mem_cons.mpr ⟨⟨s_putI (ci := 8) (k := 11) rfl (by decide) inX12 tyX12_ok nmX12 rfl rfl w_1232 dX12_blanks_29, s_mo_putI _ _ _⟩, (List.forall_mem_cons.mpr ⟨s_r0 mk_168 dX12_blanks_32, (fun _ h => absurd h List.not_mem_nil)⟩)⟩)⟩)⟩)⟩)⟩)⟩)⟩)⟩)⟩)⟩)⟩)⟩)⟩)⟩)⟩)⟩)
theorem km_168 : ∀ t ∈ tm_168, s_tok 168 t := (List.forall_mem_cons.mpr ⟨s_lift mk_168 kb_168_0, (fun _ h => absurd h List.not_mem_nil)⟩)
theorem dX12_letters_0 : decode cX12_letters 0 = .ok (.aload_n 0, 1) := by decide +kernel
theorem dX12_letters_1 : decode cX12_letters 1 = .ok (.invokevirtual 111, 3) := by decide +kernel
theorem dX12_letters_4 : decode cX12_letters 4 = .ok (.aload_n 0, 1) := by decide +kernel
theorem dX12_letters_5 : decode cX12_letters 5 = .ok (.bipush 97, 2) := by decide +kernel
theorem dX12_letters_7 : decode cX12_letters 7 = .ok (.bipush 122, 2) := by decide +kernel
theorem dX12_letters_9 : decode cX12_letters 9 = .ok (.invokevirtual 104, 3) := by decide +kernel
theorem dX12_letters_12 : decode cX12_letters 12 = .ok (.ifCond .eq 16, 3) := by decide +kernel
theorem dX12_letters_15 : decode cX12_letters 15 = .ok (.aload_n 0, 1) := by decide +kernel
theorem dX12_letters_16 : decode cX12_letters 16 = .ok (.dup, 1) := by decide +kernel
theorem dX12_letters_17 : decode cX12_letters 17 = .ok (.getfield 98, 3) := by decide +kernel
theorem dX12_letters_20 : decode cX12_letters 20 = .ok (.iconst 1, 1) := by decide +kernel
theorem dX12_letters_21 : decode cX12_letters 21 = .ok (.iadd, 1) := by decide +kernel
theorem dX12_letters_22 : decode cX12_letters 22 = .ok (.putfield 98, 3) := by decide +kernel
theorem dX12_letters_25 : decode cX12_letters 25 = .ok (.goto (-21), 3) := by decide +kernel
theorem dX12_letters_28 : decode cX12_letters 28 = .ok (.return_, 1) := by decide +kernel
set_option maxRecDepth 20000 in
theorem kb_169_0 : ∀ q ∈ tb_169_0, s_atx 169 yX12_letters cX12_letters q.1 q.2 := (List.forall_mem_cons.mpr ⟨⟨s_ldAn dX12_letters_0 rfl, s_mo_ldA _ _⟩, (List.forall_mem_cons.mpr ⟨⟨s_sV mk_169 mk_168 ok_168 (by decide +kernel) dX12_letters_1 w_1331 w_1333 wp_26 (Or.inr ⟨8, _, _, rfl, rfl⟩), s_h0 mk_169⟩, (List.forall_mem_cons.mpr ⟨⟨s_ldAn dX12_letters_4 rfl, s_mo_ldA _ _⟩, (List.forall_mem_cons.mpr ⟨⟨s_bipush dX12_letters_5 (by decide +kernel), s_mo_push _ _⟩, (List.forall_mem_cons.mpr ⟨⟨s_bipush dX12_letters_7 (by decide +kernel), s_mo_push _ _⟩, (List.forall_mem_cons.mpr ⟨⟨s_sV mk_169 mk_167 ok_167 (by decide +kernel) dX12_letters_9 w_1335 w_1337 wp_27 (Or.inr ⟨8, _, _, rfl, rfl⟩), s_h0 mk_169⟩, (List.forall_mem_cons.mpr ⟨⟨s_ifeq dX12_letters_12 (by decide), s_mo_ifeq _ _⟩, (List.forall_mem_cons.mpr ⟨⟨s_ldAn dX12_letters_15 rfl, s_mo_ldA _ _⟩, (List.forall_mem_cons.mpr ⟨⟨s_dup dX12_letters_16, s_mo_dup _⟩, (List.forall_mem_cons.mpr ⟨⟨s_getf (ci := 8) (k := 9) rfl (by decide) inX12 w_1230 dX12_letters_17, s_mo_getf _ _ _⟩, (List.forall_mem_cons.mpr ⟨⟨s_iconst dX12_letters_20 (by decide +kernel), s_mo_push _ _⟩, (List.forall_mem_cons.mpr ⟨⟨s_iadd dX12_letters_21, s_mo_bin _ _⟩, (List.forall_mem_cons.mpr ⟨⟨s_putI (ci := 8) (k := 9) rfl (by decide) inX12 tyX12_ok nmX12 rfl rfl w_1230 dX12_letters_22, s_mo_putI _ _ _⟩, (List.forall_mem_cons.mpr ⟨⟨s_goto dX12_letters_25 (by decide), s_mo_goto _⟩, (List.forall_mem_cons.mpr ⟨s_r0 mk_169 dX12_letters_28, (fun _ h => absurd h List.not_mem_nil)⟩)⟩)⟩)⟩)⟩)⟩)⟩)⟩)⟩)⟩)⟩)⟩)⟩)⟩)⟩)
theorem km_169 : ∀ t ∈ tm_169, s_tok 169 t := (List.forall_mem_cons.mpr ⟨s_lift mk_169 kb_169_0, (fun _ h => absurd h List.not_mem_nil)⟩)
theorem dX12_isWord_0 : decode cX12_isWord 0 = .ok (.aload_n 0, 1) := by decide +kernel
theorem dX12_isWord_1 : decode cX12_isWord 1 = .ok (.getfield 98, 3) := by decide +kernel
theorem dX12_isWord_4 : decode cX12_isWord 4 = .ok (.aload_n 0, 1) := by decide +kernel
theorem dX12_isWord_5 : decode cX12_isWord 5 = .ok (.getfield 108, 3) := by decide +kernel
theorem dX12_isWord_8 : decode cX12_isWord 8 = .ok (.isub, 1) := by decide +kernel
theorem dX12_isWord_9 : decode cX12_isWord 9 = .ok (.aload_n 1, 1) := by decide +kernel
theorem dX12_isWord_10 : decode cX12_isWord 10 = .ok (.invokevirtual 114, 3) := by decide +kernel
theorem dX12_isWord_13 : decode cX12_isWord 13 = .ok (.if_icmp .ne 7, 3) := by decide +kernel
theorem dX12_isWord_16 : decode cX12_isWord 16 = .ok (.iconst 1, 1) := by decide +kernel
theorem dX12_isWord_17 : decode cX12_isWord 17 = .ok (.goto 4, 3) := by decide +kernel
theorem dX12_isWord_20 : decode cX12_isWord 20 = .ok (.iconst 0, 1) := by decide +kernel
theorem dX12_isWord_21 : decode cX12_isWord 21 = .ok (.istore_n 2, 1) := by decide +kernel
theorem dX12_isWord_22 : decode cX12_isWord 22 = .ok (.iconst 0, 1) := by decide +kernel
theorem dX12_isWord_23 : decode cX12_isWord 23 = .ok (.istore_n 3, 1) := by decide +kernel
theorem dX12_isWord_24 : decode cX12_isWord 24 = .ok (.iload_n 2, 1) := by decide +kernel
theorem dX12_isWord_25 : decode cX12_isWord 25 = .ok (.ifCond .eq 42, 3) := by decide +kernel
theorem dX12_isWord_28 : decode cX12_isWord 28 = .ok (.iload_n 3, 1) := by decide +kernel
theorem dX12_isWord_29 : decode cX12_isWord 29 = .ok (.aload_n 1, 1) := by decide +kernel
theorem dX12_isWord_30 : decode cX12_isWord 30 = .ok (.invokevirtual 114, 3) := by decide +kernel
theorem dX12_isWord_33 : decode cX12_isWord 33 = .ok (.if_icmp .ge 34, 3) := by decide +kernel
theorem dX12_isWord_36 : decode cX12_isWord 36 = .ok (.aload_n 0, 1) := by decide +kernel
theorem dX12_isWord_37 : decode cX12_isWord 37 = .ok (.getfield 26, 3) := by decide +kernel
theorem dX12_isWord_40 : decode cX12_isWord 40 = .ok (.aload_n 0, 1) := by decide +kernel
theorem dX12_isWord_41 : decode cX12_isWord 41 = .ok (.getfield 108, 3) := by decide +kernel
theorem dX12_isWord_44 : decode cX12_isWord 44 = .ok (.iload_n 3, 1) := by decide +kernel
theorem dX12_isWord_45 : decode cX12_isWord 45 = .ok (.iadd, 1) := by decide +kernel
theorem dX12_isWord_46 : decode cX12_isWord 46 = .ok (.baload, 1) := by decide +kernel
theorem dX12_isWord_47 : decode cX12_isWord 47 = .ok (.aload_n 1, 1) := by decide +kernel
theorem dX12_isWord_48 : decode cX12_isWord 48 = .ok (.iload_n 3, 1) := by decide +kernel
theorem dX12_isWord_49 : decode cX12_isWord 49 = .ok (.invokevirtual 119, 3) := by decide +kernel
theorem dX12_isWord_52 : decode cX12_isWord 52 = .ok (.if_icmp .ne 7, 3) := by decide +kernel
theorem dX12_isWord_55 : decode cX12_isWord 55 = .ok (.iconst 1, 1) := by decide +kernel
theorem dX12_isWord_56 : decode cX12_isWord 56 = .ok (.goto 4, 3) := by decide +kernel
theorem dX12_isWord_59 : decode cX12_isWord 59 = .ok (.iconst 0, 1) := by decide +kernel
theorem dX12_isWord_60 : decode cX12_isWord 60 = .ok (.istore_n 2, 1) := by decide +kernel
theorem dX12_isWord_61 : decode cX12_isWord 61 = .ok (.iinc 3 1, 3) := by decide +kernel
theorem dX12_isWord_64 : decode cX12_isWord 64 = .ok (.goto (-40), 3) := by decide +kernel
theorem dX12_isWord_67 : decode cX12_isWord 67 = .ok (.iload_n 2, 1) := by decide +kernel
theorem dX12_isWord_68 : decode cX12_isWord 68 = .ok (.ireturn, 1) := by decide +kernel
set_option maxRecDepth 20000 in
theorem kb_170_0 : ∀ q ∈ tb_170_0, s_atx 170 yX12_isWord cX12_isWord q.1 q.2 := (List.forall_mem_cons.mpr ⟨⟨s_ldAn dX12_isWord_0 rfl, s_mo_ldA _ _⟩, (List.forall_mem_cons.mpr ⟨⟨s_getf (ci := 8) (k := 9) rfl (by decide) inX12 w_1230 dX12_isWord_1, s_mo_getf _ _ _⟩, (List.forall_mem_cons.mpr ⟨⟨s_ldAn dX12_isWord_4 rfl, s_mo_ldA _ _⟩, (List.forall_mem_cons.mpr ⟨⟨s_getf (ci := 8) (k := 11) rfl (by decide) inX12 w_1232 dX12_isWord_5, s_mo_getf _ _ _⟩, (List.forall_mem_cons.mpr ⟨⟨s_isub dX12_isWord_8, s_mo_bin _ _⟩, (List.forall_mem_cons.mpr ⟨⟨s_ldAn dX12_isWord_9 rfl, s_mo_ldA _ _⟩, (List.forall_mem_cons.mpr ⟨⟨s_sV mk_170 mk_255 ok_255 (by decide +kernel) dX12_isWord_10 w_1356 w_520 w_521 (Or.inl ⟨rfl, rfl⟩), s_h0 mk_170⟩, (List.forall_mem_cons.mpr ⟨⟨s_icne dX12_isWord_13 (by decide), s_mo_icne _ _⟩, (List.forall_mem_cons.mpr ⟨⟨s_iconst dX12_isWord_16 (by decide +kernel), s_mo_push _ _⟩, (List.forall_mem_cons.mpr ⟨⟨s_goto dX12_isWord_17 (by decide), s_mo_goto _⟩, (List.forall_mem_cons.mpr ⟨⟨s_iconst dX12_isWord_20 (by decide +kernel), s_mo_push _ _⟩, (List.forall_mem_cons.mpr ⟨⟨s_stIn dX12_isWord_21 rfl, s_mo_stI _ _⟩, (List.forall_mem_cons.mpr ⟨⟨s_iconst dX12_isWord_22 (by decide +kernel), s_mo_push _ _⟩, (List.forall_mem_cons.mpr ⟨⟨s_stIn dX12_isWord_23 rfl, s_mo_stI _ _⟩, (List.forall_mem_cons.mpr ⟨⟨s_ldIn dX12_isWord_24 rfl, s_mo_ldI _ _⟩, (List.forall_mem_cons.mpr ⟨⟨s_ifeq dX12_isWord_25 (by decide), s_mo_ifeq _ _⟩, (List.forall_mem_cons.mpr ⟨⟨s_ldIn dX12_isWord_28 rfl, s_mo_ldI _ _⟩, (List.forall_mem_cons.mpr ⟨⟨s_ldAn dX12_isWord_29 rfl, s_mo_ldA _ _⟩, (List.forall_mem_cons.mpr ⟨⟨s_sV mk_170 mk_255 ok_255 (by decide +kernel) dX12_isWord_30 w_1356 w_520 w_521 (Or.inl ⟨rfl, rfl⟩), s_h0 mk_170⟩, (List.forall_mem_cons.mpr ⟨⟨s_icge dX12_isWord_33 (by decide), s_mo_icge _ _⟩, (List.forall_mem_cons.mpr ⟨⟨s_ldAn dX12_isWord_36 rfl, s_mo_ldA _ _⟩, (List.forall_mem_cons.mpr ⟨⟨s_getf (ci := 8) (k := 7) rfl (by decide) inX12 w_1228 dX12_isWord_37, s_mo_getf _ _ _⟩, (List.forall_mem_cons.mpr ⟨⟨s_ldAn dX12_isWord_40 rfl, s_mo_ldA _ _⟩, (List.forall_mem_cons.mpr ⟨⟨s_getf (ci := 8) (k := 11) rfl (by decide) inX12 w_1232 dX12_isWord_41, s_mo_getf _ _ _⟩, (List.forall_mem_cons.mpr ⟨⟨s_ldIn dX12_isWord_44 rfl, s_mo_ldI _ _⟩, (List.forall_mem_cons.mpr ⟨⟨s_iadd dX12_isWord_45, s_mo_bin _ _⟩, (List.forall_mem_cons.mpr ⟨⟨s_bald dX12_isWord_46, s_mo_bald _⟩, (List.forall_mem_cons.mpr ⟨⟨s_ldAn dX12_isWord_47 rfl, s_mo_ldA _ _⟩, (List.forall_mem_cons.mpr ⟨⟨s_ldIn dX12_isWord_48 rfl, s_mo_ldI _ _⟩, (List.forall_mem_cons.mpr ⟨⟨s_sV mk_170 mk_256 ok_256 (by decide +kernel) dX12_isWord_49 w_1357 w_534 w_535 (Or.inl ⟨rfl, rfl⟩), s_h0 mk_170⟩, (List.forall_mem_cons.mpr ⟨⟨s_icne dX12_isWord_52 (by decide), s_mo_icne _ _⟩, (List.forall_mem_cons.mpr ⟨⟨s_iconst dX12_isWord_55 (by decide +kernel), s_mo_push _ _⟩, (List.forall_mem_cons.mpr ⟨⟨s_goto dX12_isWord_56 (by decide), s_mo_goto _⟩, (List.forall_mem_cons.mpr ⟨⟨s_iconst dX12_isWord_59 (by decide +kernel), s_mo_push _ _⟩, (List.forall_mem_cons.mpr ⟨⟨s_stIn dX12_isWord_60 rfl, s_mo_stI _ _⟩, (List.forall_mem_cons.mpr ⟨⟨s_inc dX12_isWord_61 (by decide +kernel), s_mo_inc _ _ _⟩, (fun _ h => absurd h List.not_mem_nil)⟩)⟩)⟩)⟩)⟩)⟩)⟩)⟩)⟩)⟩)⟩)⟩)⟩)⟩)⟩)⟩)⟩)⟩)⟩)⟩)⟩)⟩)⟩)⟩)⟩)⟩)⟩)⟩)⟩)⟩)⟩)⟩)⟩)⟩)⟩)⟩)
set_option maxRecDepth 20000 in
theorem kb_170_1 : ∀ q ∈ tb_170_1, s_atx 170 yX12_isWord cX12_isWord q.1 q.2 := (List.forall_mem_cons.mpr ⟨⟨s_goto dX12_isWord_64 (by decide), s_mo_goto _⟩, (List.forall_mem_cons.mpr ⟨⟨s_ldIn dX12_isWord_67 rfl, s_mo_ldI _ _⟩, (List.forall_mem_cons.mpr ⟨s_r2 mk_170 dX12_isWord_68, (fun _ h => absurd h List.not_mem_nil)⟩)⟩)⟩)
theorem km_170 : ∀ t ∈ tm_170, s_tok 170 t := (List.forall_mem_cons.mpr ⟨s_lift mk_170 kb_170_0, (List.forall_mem_cons.mpr ⟨s_lift mk_170 kb_170_1, (fun _ h => absurd h List.not_mem_nil)⟩)⟩)
theorem dX12_passes_0 : decode cX12_passes 0 = .ok (.aload_n 0, 1) := by decide +kernel
theorem dX12_passes_1 : decode cX12_passes 1 = .ok (.invokevirtual 123, 3) := by decide +kernel
theorem dX12_passes_4 : decode cX12_passes 4 = .ok (.aload_n 0, 1) := by decide +kernel
theorem dX12_passes_5 : decode cX12_passes 5 = .ok (.aload_n 1, 1) := by decide +kernel
theorem dX12_passes_6 : decode cX12_passes 6 = .ok (.invokevirtual 126, 3) := by decide +kernel
theorem dX12_passes_9 : decode cX12_passes 9 = .ok (.ifCond .eq 5, 3) := by decide +kernel
theorem dX12_passes_12 : decode cX12_passes 12 = .ok (.iconst 1, 1) := by decide +kernel
theorem dX12_passes_13 : decode cX12_passes 13 = .ok (.ireturn, 1) := by decide +kernel
theorem dX12_passes_14 : decode cX12_passes 14 = .ok (.aload_n 0, 1) := by decide +kernel
theorem dX12_passes_15 : decode cX12_passes 15 = .ok (.aload_n 0, 1) := by decide +kernel
theorem dX12_passes_16 : decode cX12_passes 16 = .ok (.getfield 108, 3) := by decide +kernel
theorem dX12_passes_19 : decode cX12_passes 19 = .ok (.putfield 98, 3) := by decide +kernel
theorem dX12_passes_22 : decode cX12_passes 22 = .ok (.iconst 0, 1) := by decide +kernel
theorem dX12_passes_23 : decode cX12_passes 23 = .ok (.ireturn, 1) := by decide +kernel
set_option maxRecDepth 20000 in
theorem kb_171_0 : ∀ q ∈ tb_171_0, s_atx 171 yX12_passes cX12_passes q.1 q.2 := (List.forall_mem_cons.mpr ⟨⟨s_ldAn dX12_passes_0 rfl, s_mo_ldA _ _⟩, (List.forall_mem_cons.mpr ⟨⟨s_sV mk_171 mk_169 ok_169 (by decide +kernel) dX12_passes_1 w_1343 w_1345 wp_29 (Or.inr ⟨8, _, _, rfl, rfl⟩), s_h0 mk_171⟩, (List.forall_mem_cons.mpr ⟨⟨s_ldAn dX12_passes_4 rfl, s_mo_ldA _ _⟩, (List.forall_mem_cons.mpr ⟨⟨s_ldAn dX12_passes_5 rfl, s_mo_ldA _ _⟩, (List.forall_mem_cons.mpr ⟨⟨s_sV mk_171 mk_170 ok_170 (by decide +kernel) dX12_passes_6 w_1352 w_1354 wp_31 (Or.inr ⟨8, _, _, rfl, rfl⟩), s_h0 mk_171⟩, (List.forall_mem_cons.mpr ⟨⟨s_ifeq dX12_passes_9 (by decide), s_mo_ifeq _ _⟩, (List.forall_mem_cons.mpr ⟨⟨s_iconst dX12_passes_12 (by decide +kernel), s_mo_push _ _⟩, (List.forall_mem_cons.mpr ⟨s_r2 mk_171 dX12_passes_13, (List.forall_mem_cons.mpr ⟨⟨s_ldAn dX12_passes_14 rfl, s_mo_ldA _ _⟩, (List.forall_mem_cons.mpr ⟨⟨s_ldAn dX12_passes_15 rfl, s_mo_ldA _ _⟩, (List.forall_mem_cons.mpr ⟨⟨s_getf (ci := 8) (k := 11) rfl (by decide) inX12 w_1232 dX12_passes_16, s_mo_getf _ _ _⟩, (List.forall_mem_cons.mpr ⟨⟨s_putI (ci := 8) (k := 9) rfl (by decide) inX12 tyX12_ok nmX12 rfl rfl w_1230 dX12_passes_19, s_mo_putI _ _ _⟩, (List.forall_mem_cons.mpr ⟨⟨s_iconst dX12_passes_22 (by decide +kernel), s_mo_push _ _⟩, (List.forall_mem_cons.mpr ⟨s_r2 mk_171 dX12_passes_23, (fun _ h => absurd h List.not_mem_nil)⟩)⟩)⟩)⟩)⟩)⟩)⟩)⟩)⟩)⟩)⟩)⟩)⟩)⟩)
theorem km_171 : ∀ t ∈ tm_171, s_tok 171 t := (List.forall_mem_cons.mpr ⟨s_lift mk_171 kb_171_0, (fun _ h => absurd h List.not_mem_nil)⟩)
theorem dX12_sign_0 : decode cX12_sign 0 = .ok (.aload_n 0, 1) := by decide +kernel
theorem dX12_sign_1 : decode cX12_sign 1 = .ok (.invokevirtual 111, 3) := by decide +kernel
theorem dX12_sign_4 : decode cX12_sign 4 = .ok (.aload_n 0, 1) := by decide +kernel
theorem dX12_sign_5 : decode cX12_sign 5 = .ok (.iload_n 1, 1) := by decide +kernel
theorem dX12_sign_6 : decode cX12_sign 6 = .ok (.iload_n 1, 1) := by decide +kernel
theorem dX12_sign_7 : decode cX12_sign 7 = .ok (.invokevirtual 104, 3) := by decide +kernel
theorem dX12_sign_10 : decode cX12_sign 10 = .ok (.ifCond .ne 5, 3) := by decide +kernel
theorem dX12_sign_13 : decode cX12_sign 13 = .ok (.iconst 0, 1) := by decide +kernel
theorem dX12_sign_14 : decode cX12_sign 14 = .ok (.ireturn, 1) := by decide +kernel
theorem dX12_sign_15 : decode cX12_sign 15 = .ok (.aload_n 0, 1) := by decide +kernel
theorem dX12_sign_16 : decode cX12_sign 16 = .ok (.dup, 1) := by decide +kernel
theorem dX12_sign_17 : decode cX12_sign 17 = .ok (.getfield 98, 3) := by decide +kernel
theorem dX12_sign_20 : decode cX12_sign 20 = .ok (.iconst 1, 1) := by decide +kernel
theorem dX12_sign_21 : decode cX12_sign 21 = .ok (.iadd, 1) := by decide +kernel
theorem dX12_sign_22 : decode cX12_sign 22 = .ok (.putfield 98, 3) := by decide +kernel
theorem dX12_sign_25 : decode cX12_sign 25 = .ok (.iconst 1, 1) := by decide +kernel
theorem dX12_sign_26 : decode cX12_sign 26 = .ok (.ireturn, 1) := by decide +kernel
set_option maxRecDepth 20000 in
theorem kb_172_0 : ∀ q ∈ tb_172_0, s_atx 172 yX12_sign cX12_sign q.1 q.2 := (List.forall_mem_cons.mpr ⟨⟨s_ldAn dX12_sign_0 rfl, s_mo_ldA _ _⟩, (List.forall_mem_cons.mpr ⟨⟨s_sV mk_172 mk_168 ok_168 (by decide +kernel) dX12_sign_1 w_1331 w_1333 wp_26 (Or.inr ⟨8, _, _, rfl, rfl⟩), s_h0 mk_172⟩, (List.forall_mem_cons.mpr ⟨⟨s_ldAn dX12_sign_4 rfl, s_mo_ldA _ _⟩, (List.forall_mem_cons.mpr ⟨⟨s_ldIn dX12_sign_5 rfl, s_mo_ldI _ _⟩, (List.forall_mem_cons.mpr ⟨⟨s_ldIn dX12_sign_6 rfl, s_mo_ldI _ _⟩, (List.forall_mem_cons.mpr ⟨⟨s_sV mk_172 mk_167 ok_167 (by decide +kernel) dX12_sign_7 w_1335 w_1337 wp_27 (Or.inr ⟨8, _, _, rfl, rfl⟩), s_h0 mk_172⟩, (List.forall_mem_cons.mpr ⟨⟨s_ifne dX12_sign_10 (by decide), s_mo_ifne _ _⟩, (List.forall_mem_cons.mpr ⟨⟨s_iconst dX12_sign_13 (by decide +kernel), s_mo_push _ _⟩, (List.forall_mem_cons.mpr ⟨s_r2 mk_172 dX12_sign_14, (List.forall_mem_cons.mpr ⟨⟨s_ldAn dX12_sign_15 rfl, s_mo_ldA _ _⟩, (List.forall_mem_cons.mpr ⟨⟨s_dup dX12_sign_16, s_mo_dup _⟩, (List.forall_mem_cons.mpr ⟨⟨s_getf (ci := 8) (k := 9) rfl (by decide) inX12 w_1230 dX12_sign_17, s_mo_getf _ _ _⟩, (List.forall_mem_cons.mpr ⟨⟨s_iconst dX12_sign_20 (by decide +kernel), s_mo_push _ _⟩, (List.forall_mem_cons.mpr ⟨⟨s_iadd dX12_sign_21, s_mo_bin _ _⟩, (List.forall_mem_cons.mpr ⟨⟨s_putI (ci := 8) (k := 9) rfl (by decide) inX12 tyX12_ok nmX12 rfl rfl w_1230 dX12_sign_22, s_mo_putI _ _ _⟩, (List.forall_mem_cons.mpr ⟨⟨s_iconst dX12_sign_25 (by decide +kernel), s_mo_push _ _⟩, (List.forall_mem_cons.mpr ⟨s_r2 mk_172 dX12_sign_26, (fun _ h => absurd h List.not_mem_nil)⟩)⟩)⟩)⟩)⟩)⟩)⟩)⟩)⟩)⟩)⟩)⟩)⟩)⟩)⟩)⟩)⟩)
theorem km_172 : ∀ t ∈ tm_172, s_tok 172 t := (List.forall_mem_cons.mpr ⟨s_lift mk_172 kb_172_0, (fun _ h => absurd h List.not_mem_nil)⟩)
theorem dX12_number_0 : decode cX12_number 0 = .ok (.aload_n 0, 1) := by decide +kernel
theorem dX12_number_1 : decode cX12_number 1 = .ok (.invokevirtual 111, 3) := by decide +kernel
theorem dX12_number_4 : decode cX12_number 4 = .ok (.iconst 0, 1) := by decide +kernel
theorem dX12_number_5 : decode cX12_number 5 = .ok (.istore_n 3, 1) := by decide +kernel
theorem dX12_number_6 : decode cX12_number 6 = .ok (.aload_n 0, 1) := by decide +kernel
theorem dX12_number_7 : decode cX12_number 7 = .ok (.bipush 48, 2) := by decide +kernel
theorem dX12_number_9 : decode cX12_number 9 = .ok (.bipush 57, 2) := by decide +kernel
theorem dX12_number_11 : decode cX12_number 11 = .ok (.invokevirtual 104, 3) := by decide +kernel
theorem dX12_number_14 : decode cX12_number 14 = .ok (.ifCond .eq 51, 3) := by decide +kernel
theorem dX12_number_17 : decode cX12_number 17 = .ok (.aload_n 0, 1) := by decide +kernel
theorem dX12_number_18 : decode cX12_number 18 = .ok (.getfield 98, 3) := by decide +kernel
theorem dX12_number_21 : decode cX12_number 21 = .ok (.aload_n 0, 1) := by decide +kernel
theorem dX12_number_22 : decode cX12_number 22 = .ok (.getfield 108, 3) := by decide +kernel
theorem dX12_number_25 : decode cX12_number 25 = .ok (.isub, 1) := by decide +kernel
theorem dX12_number_26 : decode cX12_number 26 = .ok (.iconst 3, 1) := by decide +kernel
theorem dX12_number_27 : decode cX12_number 27 = .ok (.if_icmp .ge 23, 3) := by decide +kernel
theorem dX12_number_30 : decode cX12_number 30 = .ok (.bipush 10, 2) := by decide +kernel
theorem dX12_number_32 : decode cX12_number 32 = .ok (.iload_n 3, 1) := by decide +kernel
theorem dX12_number_33 : decode cX12_number 33 = .ok (.imul, 1) := by decide +kernel
theorem dX12_number_34 : decode cX12_number 34 = .ok (.aload_n 0, 1) := by decide +kernel
theorem dX12_number_35 : decode cX12_number 35 = .ok (.getfield 26, 3) := by decide +kernel
theorem dX12_number_38 : decode cX12_number 38 = .ok (.aload_n 0, 1) := by decide +kernel
theorem dX12_number_39 : decode cX12_number 39 = .ok (.getfield 98, 3) := by decide +kernel
theorem dX12_number_42 : decode cX12_number 42 = .ok (.baload, 1) := by decide +kernel
theorem dX12_number_43 : decode cX12_number 43 = .ok (.iadd, 1) := by decide +kernel
theorem dX12_number_44 : decode cX12_number 44 = .ok (.bipush 48, 2) := by decide +kernel
theorem dX12_number_46 : decode cX12_number 46 = .ok (.isub, 1) := by decide +kernel
theorem dX12_number_47 : decode cX12_number 47 = .ok (.goto 4, 3) := by decide +kernel
theorem dX12_number_50 : decode cX12_number 50 = .ok (.iload_n 3, 1) := by decide +kernel
theorem dX12_number_51 : decode cX12_number 51 = .ok (.istore_n 3, 1) := by decide +kernel
theorem dX12_number_52 : decode cX12_number 52 = .ok (.aload_n 0, 1) := by decide +kernel
theorem dX12_number_53 : decode cX12_number 53 = .ok (.dup, 1) := by decide +kernel
theorem dX12_number_54 : decode cX12_number 54 = .ok (.getfield 98, 3) := by decide +kernel
theorem dX12_number_57 : decode cX12_number 57 = .ok (.iconst 1, 1) := by decide +kernel
theorem dX12_number_58 : decode cX12_number 58 = .ok (.iadd, 1) := by decide +kernel
theorem dX12_number_59 : decode cX12_number 59 = .ok (.putfield 98, 3) := by decide +kernel
theorem dX12_number_62 : decode cX12_number 62 = .ok (.goto (-56), 3) := by decide +kernel
theorem dX12_number_65 : decode cX12_number 65 = .ok (.aload_n 0, 1) := by decide +kernel
theorem dX12_number_66 : decode cX12_number 66 = .ok (.getfield 98, 3) := by decide +kernel
theorem dX12_number_69 : decode cX12_number 69 = .ok (.aload_n 0, 1) := by decide +kernel
theorem dX12_number_70 : decode cX12_number 70 = .ok (.getfield 108, 3) := by decide +kernel
theorem dX12_number_73 : decode cX12_number 73 = .ok (.if_icmp .eq 26, 3) := by decide +kernel
theorem dX12_number_76 : decode cX12_number 76 = .ok (.aload_n 0, 1) := by decide +kernel
theorem dX12_number_77 : decode cX12_number 77 = .ok (.getfield 98, 3) := by decide +kernel
theorem dX12_number_80 : decode cX12_number 80 = .ok (.aload_n 0, 1) := by decide +kernel
theorem dX12_number_81 : decode cX12_number 81 = .ok (.getfield 108, 3) := by decide +kernel
theorem dX12_number_84 : decode cX12_number 84 = .ok (.isub, 1) := by decide +kernel
theorem dX12_number_85 : decode cX12_number 85 = .ok (.iconst 3, 1) := by decide +kernel
theorem dX12_number_86 : decode cX12_number 86 = .ok (.if_icmp .gt 13, 3) := by decide +kernel
theorem dX12_number_89 : decode cX12_number 89 = .ok (.iload_n 3, 1) := by decide +kernel
theorem dX12_number_90 : decode cX12_number 90 = .ok (.iload_n 1, 1) := by decide +kernel
theorem dX12_number_91 : decode cX12_number 91 = .ok (.if_icmp .lt 8, 3) := by decide +kernel
theorem dX12_number_94 : decode cX12_number 94 = .ok (.iload_n 3, 1) := by decide +kernel
theorem dX12_number_95 : decode cX12_number 95 = .ok (.iload_n 2, 1) := by decide +kernel
theorem dX12_number_96 : decode cX12_number 96 = .ok (.if_icmp .le 7, 3) := by decide +kernel
theorem dX12_number_99 : decode cX12_number 99 = .ok (.iconst (-1), 1) := by decide +kernel
theorem dX12_number_100 : decode cX12_number 100 = .ok (.goto 4, 3) := by decide +kernel
theorem dX12_number_103 : decode cX12_number 103 = .ok (.iload_n 3, 1) := by decide +kernel
theorem dX12_number_104 : decode cX12_number 104 = .ok (.ireturn, 1) := by decide +kernel
set_option maxRecDepth 20000 in
theorem kb_173_0 : ∀ q ∈ tb_173_0, s_atx 173 yX12_number cX12_number q.1 q.2 := (List.forall_mem_cons.mpr ⟨⟨s_ldAn dX12_number_0 rfl, s_mo_ldA _ _⟩, (List.forall_mem_cons.mpr ⟨⟨s_sV mk_173 mk_168 ok_168 (by decide +kernel) dX12_number_1 w_1331 w_1333 wp_26 (Or.inr ⟨8, _, _, rfl, rfl⟩), s_h0 mk_173⟩, (List.forall_mem_cons.mpr ⟨⟨s_iconst dX12_number_4 (by decide +kernel), s_mo_push _ _⟩, (List.forall_mem_cons.mpr ⟨⟨s_stIn dX12_number_5 rfl, s_mo_stI _ _⟩, (List.forall_mem_cons.mpr ⟨⟨s_ldAn dX12_number_6 rfl, s_mo_ldA _ _⟩, (List.forall_mem_cons.mpr ⟨⟨s_bipush dX12_number_7 (by decide +kernel), s_mo_push _ _⟩, (List.forall_mem_cons.mpr ⟨⟨s_bipush dX12_number_9 (by decide +kernel), s_mo_push _ _⟩, (List.forall_mem_cons.mpr ⟨⟨s_sV mk_173 mk_167 ok_167 (by decide +kernel) dX12_number_11 w_1335 w_1337 wp_27 (Or.inr ⟨8, _, _, rfl, rfl⟩), s_h0 mk_173⟩, (List.forall_mem_cons.mpr ⟨⟨s_ifeq dX12_number_14 (by decide), s_mo_ifeq _ _⟩, (List.forall_mem_cons.mpr ⟨⟨s_ldAn dX12_number_17 rfl, s_mo_ldA _ _⟩, (List.forall_mem_cons.mpr ⟨⟨s_getf (ci := 8) (k := 9) rfl (by decide) inX12 w_1230 dX12_number_18, s_mo_getf _ _ _⟩, (List.forall_mem_cons.mpr ⟨⟨s_ldAn dX12_number_21 rfl, s_mo_ldA _ _⟩, (List.forall_mem_cons.mpr ⟨⟨s_getf (ci := 8) (k := 11) rfl (by decide) inX12 w_1232 dX12_number_22, s_mo_getf _ _ _⟩, (List.forall_mem_cons.mpr ⟨⟨s_isub dX12_number_25, s_mo_bin _ _⟩, (List.forall_mem_cons.mpr ⟨⟨s_iconst dX12_number_26 (by decide +kernel), s_mo_push _ _⟩, (List.forall_mem_cons.mpr ⟨⟨s_icge dX12_number_27 (by decide), s_mo_icge _ _⟩, (List.forall_mem_cons.mpr ⟨⟨s_bipush dX12_number_30 (by decide +kernel), s_mo_push _ _⟩, (List.forall_mem_cons.mpr ⟨⟨s_ldIn dX12_number_32 rfl, s_mo_ldI _ _⟩, (List.forall_mem_cons.mpr ⟨⟨s_imul dX12_number_33, s_mo_bin _ _⟩, (List.forall_mem_cons.mpr ⟨⟨s_ldAn dX12_number_34 rfl, s_mo_ldA _ _⟩, (List.forall_mem_cons.mpr ⟨⟨s_getf (ci := 8) (k := 7) rfl (by decide) inX12 w_1228 dX12_number_35, s_mo_getf _ _ _⟩, (List.forall_mem_cons.mpr ⟨⟨s_ldAn dX12_number_38 rfl, s_mo_ldA _ _⟩, (List.forall_mem_cons.mpr ⟨⟨s_getf (ci := 8) (k := 9) rfl (by decide) inX12 w_1230 dX12_number_39, s_mo_getf _ _ _⟩, (List.forall_mem_cons.mpr ⟨⟨s_bald dX12_number_42, s_mo_bald _⟩, (List.forall_mem_cons.mpr ⟨⟨s_iadd dX12_number_43, s_mo_bin _ _⟩, (List.forall_mem_cons.mpr ⟨⟨s_bipush dX12_number_44 (by decide +kernel), s_mo_push _ _⟩, (List.forall_mem_cons.mpr ⟨⟨s_isub dX12_number_46, s_mo_bin _ _⟩, (List.forall_mem_cons.mpr ⟨⟨s_goto dX12_number_47 (by decide), s_mo_goto _⟩, (List.forall_mem_cons.mpr ⟨⟨s_ldIn dX12_number_50 rfl, s_mo_ldI _ _⟩, (List.forall_mem_cons.mpr ⟨⟨s_stIn dX12_number_51 rfl, s_mo_stI _ _⟩, (List.forall_mem_cons.mpr ⟨⟨s_ldAn dX12_number_52 rfl, s_mo_ldA _ _⟩, (List.forall_mem_cons.mpr ⟨⟨s_dup dX12_number_53, s_mo_dup _⟩, (List.forall_mem_cons.mpr ⟨⟨s_getf (ci := 8) (k := 9) rfl (by decide) inX12 w_1230 dX12_number_54, s_mo_getf _ _ _⟩, (List.forall_mem_cons.mpr ⟨⟨s_iconst dX12_number_57 (by decide +kernel), s_mo_push _ _⟩, (List.forall_mem_cons.mpr ⟨⟨s_iadd dX12_number_58, s_mo_bin _ _⟩, (List.forall_mem_cons.mpr ⟨⟨s_putI (ci := 8) (k := 9) rfl (by decide) inX12 tyX12_ok nmX12 rfl rfl w_1230 dX12_number_59, s_mo_putI _ _ _⟩, (List.forall_mem_cons.mpr ⟨⟨s_goto dX12_number_62 (by decide), s_mo_goto _⟩, (fun _ h => absurd h List.not_mem_nil)⟩)⟩)⟩)⟩)⟩)⟩)⟩)⟩)⟩)⟩)⟩)⟩)⟩)⟩)⟩)⟩)⟩)⟩)⟩)⟩)⟩)⟩)⟩)⟩)⟩)⟩)⟩)⟩)⟩)⟩)⟩)⟩)⟩)⟩)⟩)⟩)⟩)
set_option maxRecDepth 20000 in
theorem kb_173_1 : ∀ q ∈ tb_173_1, s_atx 173 yX12_number cX12_number q.1 q.2 := (List.forall_mem_cons.mpr ⟨⟨s_ldAn dX12_number_65 rfl, s_mo_ldA _ _⟩, (List.forall_mem_cons.mpr ⟨⟨s_getf (ci := 8) (k := 9) rfl (by decide) inX12 w_1230 dX12_number_66, s_mo_getf _ _ _⟩, (List.forall_mem_cons.mpr ⟨⟨s_ldAn dX12_number_69 rfl, s_mo_ldA _ _⟩, (List.forall_mem_cons.mpr ⟨⟨s_getf (ci := 8) (k := 11) rfl (by decide) inX12 w_1232 dX12_number_70, s_mo_getf _ _ _⟩, (List.forall_mem_cons.mpr ⟨⟨s_iceq dX12_number_73 (by decide), s_mo_iceq _ _⟩, (List.forall_mem_cons.mpr ⟨⟨s_ldAn dX12_number_76 rfl, s_mo_ldA _ _⟩, (List.forall_mem_cons.mpr ⟨⟨s_getf (ci := 8) (k := 9) rfl (by decide) inX12 w_1230 dX12_number_77, s_mo_getf _ _ _⟩, (List.forall_mem_cons.mpr ⟨⟨s_ldAn dX12_number_80 rfl, s_mo_ldA _ _⟩, (List.forall_mem_cons.mpr ⟨⟨s_getf (ci := 8) (k := 11) rfl (by decide) inX12 w_1232 dX12_number_81, s_mo_getf _ _ _⟩, (List.forall_mem_cons.mpr ⟨⟨s_isub dX12_number_84, s_mo_bin _ _⟩, (List.forall_mem_cons.mpr ⟨⟨s_iconst dX12_number_85 (by decide +kernel), s_mo_push _ _⟩, (List.forall_mem_cons.mpr ⟨⟨s_icgt dX12_number_86 (by decide), s_mo_icgt _ _⟩, (List.forall_mem_cons.mpr ⟨⟨s_ldIn dX12_number_89 rfl, s_mo_ldI _ _⟩, (List.forall_mem_cons.mpr ⟨⟨s_ldIn dX12_number_90 rfl, s_mo_ldI _ _⟩, (List.forall_mem_cons.mpr ⟨⟨s_iclt dX12_number_91 (by decide), s_mo_iclt _ _⟩, (List.forall_mem_cons.mpr ⟨⟨s_ldIn dX12_number_94 rfl, s_mo_ldI _ _⟩, (List.forall_mem_cons.mpr ⟨⟨s_ldIn dX12_number_95 rfl, s_mo_ldI _ _⟩, (List.forall_mem_cons.mpr ⟨⟨s_icle dX12_number_96 (by decide), s_mo_icle _ _⟩, (List.forall_mem_cons.mpr ⟨⟨s_iconst dX12_number_99 (by decide +kernel), s_mo_push _ _⟩, (List.forall_mem_cons.mpr ⟨⟨s_goto dX12_number_100 (by decide), s_mo_goto _⟩, (List.forall_mem_cons.mpr ⟨⟨s_ldIn dX12_number_103 rfl, s_mo_ldI _ _⟩, (List.forall_mem_cons.mpr ⟨s_r1 mk_173 dX12_number_104, (fun _ h => absurd h List.not_mem_nil)⟩)⟩)⟩)⟩)⟩)⟩)⟩)⟩)⟩)⟩)⟩)⟩)⟩)⟩)⟩)⟩)⟩)⟩)⟩)⟩)⟩)⟩)
theorem km_173 : ∀ t ∈ tm_173, s_tok 173 t := (List.forall_mem_cons.mpr ⟨s_lift mk_173 kb_173_0, (List.forall_mem_cons.mpr ⟨s_lift mk_173 kb_173_1, (fun _ h => absurd h List.not_mem_nil)⟩)⟩)
theorem dX12_fault_0 : decode cX12_fault 0 = .ok (.aload_n 0, 1) := by decide +kernel
theorem dX12_fault_1 : decode cX12_fault 1 = .ok (.iconst 0, 1) := by decide +kernel
theorem dX12_fault_2 : decode cX12_fault 2 = .ok (.putfield 3, 3) := by decide +kernel
theorem dX12_fault_5 : decode cX12_fault 5 = .ok (.aload_n 0, 1) := by decide +kernel
theorem dX12_fault_6 : decode cX12_fault 6 = .ok (.getfield 30, 3) := by decide +kernel
theorem dX12_fault_9 : decode cX12_fault 9 = .ok (.ireturn, 1) := by decide +kernel
set_option maxRecDepth 20000 in
theorem kb_174_0 : ∀ q ∈ tb_174_0, s_atx 174 yX12_fault cX12_fault q.1 q.2 := (List.forall_mem_cons.mpr ⟨⟨s_ldAn dX12_fault_0 rfl, s_mo_ldA _ _⟩, (List.forall_mem_cons.mpr ⟨⟨s_iconst dX12_fault_1 (by decide +kernel), s_mo_push _ _⟩, (List.forall_mem_cons.mpr ⟨⟨s_putI (ci := 8) (k := 0) rfl (by decide) inX12 tyX12_ok nmX12 rfl rfl w_1221 dX12_fault_2, s_mo_putI _ _ _⟩, (List.forall_mem_cons.mpr ⟨⟨s_ldAn dX12_fault_5 rfl, s_mo_ldA _ _⟩, (List.forall_mem_cons.mpr ⟨⟨s_getf (ci := 8) (k := 13) rfl (by decide) inX12 w_1234 dX12_fault_6, s_mo_getf _ _ _⟩, (List.forall_mem_cons.mpr ⟨s_r1 mk_174 dX12_fault_9, (fun _ h => absurd h List.not_mem_nil)⟩)⟩)⟩)⟩)⟩)⟩)
theorem km_174 : ∀ t ∈ tm_174, s_tok 174 t := (List.forall_mem_cons.mpr ⟨s_lift mk_174 kb_174_0, (fun _ h => absurd h List.not_mem_nil)⟩)
theorem dX12_paneTold_0 : decode cX12_paneTold 0 = .ok (.aload_n 0, 1) := by decide +kernel
theorem dX12_paneTold_1 : decode cX12_paneTold 1 = .ok (.iconst 0, 1) := by decide +kernel
theorem dX12_paneTold_2 : decode cX12_paneTold 2 = .ok (.aload_n 0, 1) := by decide +kernel
theorem dX12_paneTold_3 : decode cX12_paneTold 3 = .ok (.invokevirtual 92, 3) := by decide +kernel
theorem dX12_paneTold_6 : decode cX12_paneTold 6 = .ok (.iconst 1, 1) := by decide +kernel
theorem dX12_paneTold_7 : decode cX12_paneTold 7 = .ok (.isub, 1) := by decide +kernel
theorem dX12_paneTold_8 : decode cX12_paneTold 8 = .ok (.invokevirtual 130, 3) := by decide +kernel
theorem dX12_paneTold_11 : decode cX12_paneTold 11 = .ok (.istore_n 1, 1) := by decide +kernel
theorem dX12_paneTold_12 : decode cX12_paneTold 12 = .ok (.iload_n 1, 1) := by decide +kernel
theorem dX12_paneTold_13 : decode cX12_paneTold 13 = .ok (.ifCond .ge 7, 3) := by decide +kernel
theorem dX12_paneTold_16 : decode cX12_paneTold 16 = .ok (.iconst (-1), 1) := by decide +kernel
theorem dX12_paneTold_17 : decode cX12_paneTold 17 = .ok (.goto 16, 3) := by decide +kernel
theorem dX12_paneTold_20 : decode cX12_paneTold 20 = .ok (.aload_n 0, 1) := by decide +kernel
theorem dX12_paneTold_21 : decode cX12_paneTold 21 = .ok (.iconst 0, 1) := by decide +kernel
theorem dX12_paneTold_22 : decode cX12_paneTold 22 = .ok (.aload_n 0, 1) := by decide +kernel
theorem dX12_paneTold_23 : decode cX12_paneTold 23 = .ok (.getfield 13, 3) := by decide +kernel
theorem dX12_paneTold_26 : decode cX12_paneTold 26 = .ok (.iconst 1, 1) := by decide +kernel
theorem dX12_paneTold_27 : decode cX12_paneTold 27 = .ok (.iaload, 1) := by decide +kernel
theorem dX12_paneTold_28 : decode cX12_paneTold 28 = .ok (.iconst 1, 1) := by decide +kernel
theorem dX12_paneTold_29 : decode cX12_paneTold 29 = .ok (.isub, 1) := by decide +kernel
theorem dX12_paneTold_30 : decode cX12_paneTold 30 = .ok (.invokevirtual 130, 3) := by decide +kernel
theorem dX12_paneTold_33 : decode cX12_paneTold 33 = .ok (.istore_n 2, 1) := by decide +kernel
theorem dX12_paneTold_34 : decode cX12_paneTold 34 = .ok (.iload_n 2, 1) := by decide +kernel
theorem dX12_paneTold_35 : decode cX12_paneTold 35 = .ok (.ifCond .ge 7, 3) := by decide +kernel
theorem dX12_paneTold_38 : decode cX12_paneTold 38 = .ok (.iconst (-1), 1) := by decide +kernel
theorem dX12_paneTold_39 : decode cX12_paneTold 39 = .ok (.goto 11, 3) := by decide +kernel
theorem dX12_paneTold_42 : decode cX12_paneTold 42 = .ok (.aload_n 0, 1) := by decide +kernel
theorem dX12_paneTold_43 : decode cX12_paneTold 43 = .ok (.invokevirtual 92, 3) := by decide +kernel
theorem dX12_paneTold_46 : decode cX12_paneTold 46 = .ok (.iload_n 2, 1) := by decide +kernel
theorem dX12_paneTold_47 : decode cX12_paneTold 47 = .ok (.imul, 1) := by decide +kernel
theorem dX12_paneTold_48 : decode cX12_paneTold 48 = .ok (.iload_n 1, 1) := by decide +kernel
theorem dX12_paneTold_49 : decode cX12_paneTold 49 = .ok (.iadd, 1) := by decide +kernel
theorem dX12_paneTold_50 : decode cX12_paneTold 50 = .ok (.ireturn, 1) := by decide +kernel
set_option maxRecDepth 20000 in
theorem kb_175_0 : ∀ q ∈ tb_175_0, s_atx 175 yX12_paneTold cX12_paneTold q.1 q.2 := (List.forall_mem_cons.mpr ⟨⟨s_ldAn dX12_paneTold_0 rfl, s_mo_ldA _ _⟩, (List.forall_mem_cons.mpr ⟨⟨s_iconst dX12_paneTold_1 (by decide +kernel), s_mo_push _ _⟩, (List.forall_mem_cons.mpr ⟨⟨s_ldAn dX12_paneTold_2 rfl, s_mo_ldA _ _⟩, (List.forall_mem_cons.mpr ⟨⟨s_sV mk_175 mk_155 ok_155 (by decide +kernel) dX12_paneTold_3 w_1375 w_1377 wp_36 (Or.inr ⟨8, _, _, rfl, rfl⟩), s_h0 mk_175⟩, (List.forall_mem_cons.mpr ⟨⟨s_iconst dX12_paneTold_6 (by decide +kernel), s_mo_push _ _⟩, (List.forall_mem_cons.mpr ⟨⟨s_isub dX12_paneTold_7, s_mo_bin _ _⟩, (List.forall_mem_cons.mpr ⟨⟨s_sV mk_175 mk_173 ok_173 (by decide +kernel) dX12_paneTold_8 w_1362 w_1364 wp_33 (Or.inr ⟨8, _, _, rfl, rfl⟩), s_h0 mk_175⟩, (List.forall_mem_cons.mpr ⟨⟨s_stIn dX12_paneTold_11 rfl, s_mo_stI _ _⟩, (List.forall_mem_cons.mpr ⟨⟨s_ldIn dX12_paneTold_12 rfl, s_mo_ldI _ _⟩, (List.forall_mem_cons.mpr ⟨⟨s_ifge dX12_paneTold_13 (by decide), s_mo_ifge _ _⟩, (List.forall_mem_cons.mpr ⟨⟨s_iconst dX12_paneTold_16 (by decide +kernel), s_mo_push _ _⟩, (List.forall_mem_cons.mpr ⟨⟨s_goto dX12_paneTold_17 (by decide), s_mo_goto _⟩, (List.forall_mem_cons.mpr ⟨⟨s_ldAn dX12_paneTold_20 rfl, s_mo_ldA _ _⟩, (List.forall_mem_cons.mpr ⟨⟨s_iconst dX12_paneTold_21 (by decide +kernel), s_mo_push _ _⟩, (List.forall_mem_cons.mpr ⟨⟨s_ldAn dX12_paneTold_22 rfl, s_mo_ldA _ _⟩, (List.forall_mem_cons.mpr ⟨⟨s_getf (ci := 8) (k := 1) rfl (by decide) inX12 w_1222 dX12_paneTold_23, s_mo_getf _ _ _⟩, (List.forall_mem_cons.mpr ⟨⟨s_iconst dX12_paneTold_26 (by decide +kernel), s_mo_push _ _⟩, (List.forall_mem_cons.mpr ⟨⟨s_iald dX12_paneTold_27, s_mo_iald _⟩, (List.forall_mem_cons.mpr ⟨⟨s_iconst dX12_paneTold_28 (by decide +kernel), s_mo_push _ _⟩, (List.forall_mem_cons.mpr ⟨⟨s_isub dX12_paneTold_29, s_mo_bin _ _⟩, (List.forall_mem_cons.mpr ⟨⟨s_sV mk_175 mk_173 ok_173 (by decide +kernel) dX12_paneTold_30 w_1362 w_1364 wp_33 (Or.inr ⟨8, _, _, rfl, rfl⟩), s_h0 mk_175⟩, (List.forall_mem_cons.mpr ⟨⟨s_stIn dX12_paneTold_33 rfl, s_mo_stI _ _⟩, (List.forall_mem_cons.mpr ⟨⟨s_ldIn dX12_paneTold_34 rfl, s_mo_ldI _ _⟩, (List.forall_mem_cons.mpr ⟨⟨s_ifge dX12_paneTold_35 (by decide), s_mo_ifge _ _⟩, (List.forall_mem_cons.mpr ⟨⟨s_iconst dX12_paneTold_38 (by decide +kernel), s_mo_push _ _⟩, (List.forall_mem_cons.mpr ⟨⟨s_goto dX12_paneTold_39 (by decide), s_mo_goto _⟩, (List.forall_mem_cons.mpr ⟨⟨s_ldAn dX12_paneTold_42 rfl, s_mo_ldA _ _⟩, (List.forall_mem_cons.mpr ⟨⟨s_sV mk_175 mk_155 ok_155 (by decide +kernel) dX12_paneTold_43 w_1375 w_1377 wp_36 (Or.inr ⟨8, _, _, rfl, rfl⟩), s_h0 mk_175⟩, (List.forall_mem_cons.mpr ⟨⟨s_ldIn dX12_paneTold_46 rfl, s_mo_ldI _ _⟩, (List.forall_mem_cons.mpr ⟨⟨s_imul dX12_paneTold_47, s_mo_bin _ _⟩, (List.forall_mem_cons.mpr ⟨⟨s_ldIn dX12_paneTold_48 rfl, s_mo_ldI _ _⟩, (List.forall_mem_cons.mpr ⟨⟨s_iadd dX12_paneTold_49, s_mo_bin _ _⟩, (List.forall_mem_cons.mpr ⟨s_r1 mk_175 dX12_paneTold_50, (fun _ h => absurd h List.not_mem_nil)⟩)⟩)⟩)⟩)⟩)⟩)⟩)⟩)⟩)⟩)⟩)⟩)⟩)⟩)⟩)⟩)⟩)⟩)⟩)⟩)⟩)⟩)⟩)⟩)⟩)⟩)⟩)⟩)⟩)⟩)⟩)⟩)⟩)
theorem km_175 : ∀ t ∈ tm_175, s_tok 175 t := (List.forall_mem_cons.mpr ⟨s_lift mk_175 kb_175_0, (fun _ h => absurd h List.not_mem_nil)⟩)
