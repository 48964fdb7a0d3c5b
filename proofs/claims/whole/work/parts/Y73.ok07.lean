/-! The tables are backed, piece by piece: written by wip/whole/gen_prog.py -/
theorem dX12_isHeld_0 : decode cX12_isHeld 0 = .ok (.aload_n 0, 1) := by decide +kernel
theorem dX12_isHeld_1 : decode cX12_isHeld 1 = .ok (.iload_n 1, 1) := by decide +kernel
theorem dX12_isHeld_2 : decode cX12_isHeld 2 = .ok (.invokevirtual 243, 3) := by decide +kernel
theorem dX12_isHeld_5 : decode cX12_isHeld 5 = .ok (.ifCond .ne 23, 3) := by decide +kernel
theorem dX12_isHeld_8 : decode cX12_isHeld 8 = .ok (.aload_n 0, 1) := by decide +kernel
theorem dX12_isHeld_9 : decode cX12_isHeld 9 = .ok (.iload_n 1, 1) := by decide +kernel
theorem dX12_isHeld_10 : decode cX12_isHeld 10 = .ok (.iload_n 2, 1) := by decide +kernel
theorem dX12_isHeld_11 : decode cX12_isHeld 11 = .ok (.invokevirtual 258, 3) := by decide +kernel
theorem dX12_isHeld_14 : decode cX12_isHeld 14 = .ok (.iload_n 3, 1) := by decide +kernel
theorem dX12_isHeld_15 : decode cX12_isHeld 15 = .ok (.iadd, 1) := by decide +kernel
theorem dX12_isHeld_16 : decode cX12_isHeld 16 = .ok (.aload_n 0, 1) := by decide +kernel
theorem dX12_isHeld_17 : decode cX12_isHeld 17 = .ok (.iload_n 1, 1) := by decide +kernel
theorem dX12_isHeld_18 : decode cX12_isHeld 18 = .ok (.invokevirtual 261, 3) := by decide +kernel
theorem dX12_isHeld_21 : decode cX12_isHeld 21 = .ok (.if_icmp .gt 7, 3) := by decide +kernel
theorem dX12_isHeld_24 : decode cX12_isHeld 24 = .ok (.iconst 1, 1) := by decide +kernel
theorem dX12_isHeld_25 : decode cX12_isHeld 25 = .ok (.goto 4, 3) := by decide +kernel
theorem dX12_isHeld_28 : decode cX12_isHeld 28 = .ok (.iconst 0, 1) := by decide +kernel
theorem dX12_isHeld_29 : decode cX12_isHeld 29 = .ok (.ireturn, 1) := by decide +kernel
set_option maxRecDepth 20000 in
theorem kb_196_0 : ∀ q ∈ tb_196_0, s_atx 196 yX12_isHeld cX12_isHeld q.1 q.2 := (List.forall_mem_cons.mpr ⟨⟨s_ldAn dX12_isHeld_0 rfl, s_mo_ldA _ _⟩, (List.forall_mem_cons.mpr ⟨⟨s_ldIn dX12_isHeld_1 rfl, s_mo_ldI _ _⟩, (List.forall_mem_cons.mpr ⟨⟨s_sV mk_196 mk_162 ok_162 (by decide +kernel) dX12_isHeld_2 w_1465 w_1467 wp_51 (Or.inr ⟨8, _, _, rfl, rfl⟩), s_h0 mk_196⟩, (List.forall_mem_cons.mpr ⟨⟨s_ifne dX12_isHeld_5 (by decide), s_mo_ifne _ _⟩, (List.forall_mem_cons.mpr ⟨⟨s_ldAn dX12_isHeld_8 rfl, s_mo_ldA _ _⟩, (List.forall_mem_cons.mpr ⟨⟨s_ldIn dX12_isHeld_9 rfl, s_mo_ldI _ _⟩, (List.forall_mem_cons.mpr ⟨⟨s_ldIn dX12_isHeld_10 rfl, s_mo_ldI _ _⟩, (List.forall_mem_cons.mpr ⟨⟨s_sV mk_196 mk_195 ok_195 (by decide +kernel) dX12_isHeld_11 w_1506 w_1508 wp_55 (Or.inr ⟨8, _, _, rfl, rfl⟩), s_h0 mk_196⟩, (List.forall_mem_cons.mpr ⟨⟨s_ldIn dX12_isHeld_14 rfl, s_mo_ldI _ _⟩, (List.forall_mem_cons.mpr ⟨⟨s_iadd dX12_isHeld_15, s_mo_bin _ _⟩, (List.forall_mem_cons.mpr ⟨⟨s_ldAn dX12_isHeld_16 rfl, s_mo_ldA _ _⟩, (List.forall_mem_cons.mpr ⟨⟨s_ldIn dX12_isHeld_17 rfl, s_mo_ldI _ _⟩, (List.forall_mem_cons.mpr ⟨⟨s_sV mk_196 mk_192 ok_192 (by decide +kernel) dX12_isHeld_18 w_1461 w_1463 wp_50 (Or.inr ⟨8, _, _, rfl, rfl⟩), s_h0 mk_196⟩, (List.forall_mem_cons.mpr ⟨⟨s_icgt dX12_isHeld_21 (by decide), s_mo_icgt _ _⟩, (List.forall_mem_cons.mpr ⟨⟨s_iconst dX12_isHeld_24 (by decide +kernel), s_mo_push _ _⟩, (List.forall_mem_cons.mpr ⟨⟨s_goto dX12_isHeld_25 (by decide), s_mo_goto _⟩, (List.forall_mem_cons.mpr ⟨⟨s_iconst dX12_isHeld_28 (by decide +kernel), s_mo_push _ _⟩, (List.forall_mem_cons.mpr ⟨s_r2 mk_196 dX12_isHeld_29, (fun _ h => absurd h List.not_mem_nil)⟩)⟩)⟩)⟩)⟩)⟩)⟩)⟩)⟩)⟩)⟩)⟩)⟩)⟩)⟩)⟩)⟩)⟩)
theorem km_196 : ∀ t ∈ tm_196, s_tok 196 t := (List.forall_mem_cons.mpr ⟨s_lift mk_196 kb_196_0, (fun _ h => absurd h List.not_mem_nil)⟩)
theorem dX12_pane_0 : decode cX12_pane 0 = .ok (.aload_n 0, 1) := by decide +kernel
theorem dX12_pane_1 : decode cX12_pane 1 = .ok (.iconst 0, 1) := by decide +kernel
theorem dX12_pane_2 : decode cX12_pane 2 = .ok (.putfield 3, 3) := by decide +kernel
theorem dX12_pane_5 : decode cX12_pane 5 = .ok (.aload_n 0, 1) := by decide +kernel
theorem dX12_pane_6 : decode cX12_pane 6 = .ok (.aload_n 0, 1) := by decide +kernel
theorem dX12_pane_7 : decode cX12_pane 7 = .ok (.iload_n 1, 1) := by decide +kernel
theorem dX12_pane_8 : decode cX12_pane 8 = .ok (.invokevirtual 264, 3) := by decide +kernel
theorem dX12_pane_11 : decode cX12_pane 11 = .ok (.iconst 1, 1) := by decide +kernel
theorem dX12_pane_12 : decode cX12_pane 12 = .ok (.invokevirtual 234, 3) := by decide +kernel
theorem dX12_pane_15 : decode cX12_pane 15 = .ok (.ifCond .ne 26, 3) := by decide +kernel
theorem dX12_pane_18 : decode cX12_pane 18 = .ok (.aload_n 0, 1) := by decide +kernel
theorem dX12_pane_19 : decode cX12_pane 19 = .ok (.iload_n 2, 1) := by decide +kernel
theorem dX12_pane_20 : decode cX12_pane 20 = .ok (.iconst 0, 1) := by decide +kernel
theorem dX12_pane_21 : decode cX12_pane 21 = .ok (.bipush 6, 2) := by decide +kernel
theorem dX12_pane_23 : decode cX12_pane 23 = .ok (.invokestatic 84, 3) := by decide +kernel
theorem dX12_pane_26 : decode cX12_pane 26 = .ok (.ifCond .ne 7, 3) := by decide +kernel
theorem dX12_pane_29 : decode cX12_pane 29 = .ok (.iconst 1, 1) := by decide +kernel
theorem dX12_pane_30 : decode cX12_pane 30 = .ok (.goto 4, 3) := by decide +kernel
theorem dX12_pane_33 : decode cX12_pane 33 = .ok (.iconst 0, 1) := by decide +kernel
theorem dX12_pane_34 : decode cX12_pane 34 = .ok (.iconst 2, 1) := by decide +kernel
theorem dX12_pane_35 : decode cX12_pane 35 = .ok (.invokevirtual 234, 3) := by decide +kernel
theorem dX12_pane_38 : decode cX12_pane 38 = .ok (.ifCond .eq 7, 3) := by decide +kernel
theorem dX12_pane_41 : decode cX12_pane 41 = .ok (.iconst 0, 1) := by decide +kernel
theorem dX12_pane_42 : decode cX12_pane 42 = .ok (.goto 23, 3) := by decide +kernel
theorem dX12_pane_45 : decode cX12_pane 45 = .ok (.iload_n 2, 1) := by decide +kernel
theorem dX12_pane_46 : decode cX12_pane 46 = .ok (.bipush 6, 2) := by decide +kernel
theorem dX12_pane_48 : decode cX12_pane 48 = .ok (.if_icmp .ne 11, 3) := by decide +kernel
theorem dX12_pane_51 : decode cX12_pane 51 = .ok (.aload_n 0, 1) := by decide +kernel
theorem dX12_pane_52 : decode cX12_pane 52 = .ok (.iload_n 1, 1) := by decide +kernel
theorem dX12_pane_53 : decode cX12_pane 53 = .ok (.invokevirtual 261, 3) := by decide +kernel
theorem dX12_pane_56 : decode cX12_pane 56 = .ok (.goto 9, 3) := by decide +kernel
theorem dX12_pane_59 : decode cX12_pane 59 = .ok (.aload_n 0, 1) := by decide +kernel
theorem dX12_pane_60 : decode cX12_pane 60 = .ok (.iload_n 1, 1) := by decide +kernel
theorem dX12_pane_61 : decode cX12_pane 61 = .ok (.iload_n 2, 1) := by decide +kernel
theorem dX12_pane_62 : decode cX12_pane 62 = .ok (.invokevirtual 88, 3) := by decide +kernel
theorem dX12_pane_65 : decode cX12_pane 65 = .ok (.ireturn, 1) := by decide +kernel
set_option maxRecDepth 20000 in
theorem kb_197_0 : ∀ q ∈ tb_197_0, s_atx 197 yX12_pane cX12_pane q.1 q.2 := (List.forall_mem_cons.mpr ⟨⟨s_ldAn dX12_pane_0 rfl, s_mo_ldA _ _⟩, (List.forall_mem_cons.mpr ⟨⟨s_iconst dX12_pane_1 (by decide +kernel), s_mo_push _ _⟩, (List.forall_mem_cons.mpr ⟨⟨s_putI (ci := 8) (k := 0) rfl (by decide) inX12 tyX12_ok nmX12 rfl rfl w_1221 dX12_pane_2, s_mo_putI _ _ _⟩, (List.forall_mem_cons.mpr ⟨⟨s_ldAn dX12_pane_5 rfl, s_mo_ldA _ _⟩, (List.forall_mem_cons.mpr ⟨⟨s_ldAn dX12_pane_6 rfl, s_mo_ldA _ _⟩, (List.forall_mem_cons.mpr ⟨⟨s_ldIn dX12_pane_7 rfl, s_mo_ldI _ _⟩, (List.forall_mem_cons.mpr ⟨⟨s_sV mk_197 mk_160 ok_160 (by decide +kernel) dX12_pane_8 w_1450 w_1452 wp_48 (Or.inr ⟨8, _, _, rfl, rfl⟩), s_h0 mk_197⟩, (List.forall_mem_cons.mpr ⟨⟨s_iconst dX12_pane_11 (by decide +kernel), s_mo_push _ _⟩, (List.forall_mem_cons.mpr ⟨⟨s_sV mk_197 mk_149 ok_149 (by decide +kernel) dX12_pane_12 w_1438 w_1440 wp_47 (Or.inr ⟨8, _, _, rfl, rfl⟩), s_h0 mk_197⟩, (List.forall_mem_cons.mpr ⟨⟨s_ifne dX12_pane_15 (by decide), s_mo_ifne _ _⟩, (List.forall_mem_cons.mpr ⟨⟨s_ldAn dX12_pane_18 rfl, s_mo_ldA _ _⟩, (List.forall_mem_cons.mpr ⟨⟨s_ldIn dX12_pane_19 rfl, s_mo_ldI _ _⟩, (List.forall_mem_cons.mpr ⟨⟨s_iconst dX12_pane_20 (by decide +kernel), s_mo_push _ _⟩, (List.forall_mem_cons.mpr ⟨⟨s_bipush dX12_pane_21 (by decide +kernel), s_mo_push _ _⟩, (List.forall_mem_cons.mpr ⟨⟨s_sS mk_197 mk_150 ok_150 (by decide +kernel) dX12_pane_23 w_1458 w_1459, s_h0 mk_197⟩, (List.forall_mem_cons.mpr ⟨⟨s_ifne dX12_pane_26 (by decide), s_mo_ifne _ _⟩, (List.forall_mem_cons.mpr ⟨⟨s_iconst dX12_pane_29 (by decide +kernel), s_mo_push _ _⟩, (List.forall_mem_cons.mpr ⟨⟨s_goto dX12_pane_30 (by decide), s_mo_goto _⟩, (List.forall_mem_cons.mpr ⟨⟨s_iconst dX12_pane_33 (by decide +kernel), s_mo_push _ _⟩, (List.forall_mem_cons.mpr ⟨⟨s_iconst dX12_pane_34 (by decide +kernel), s_mo_push _ _⟩, (List.forall_mem_cons.mpr ⟨⟨s_sV mk_197 mk_149 ok_149 (by decide +kernel) dX12_pane_35 w_1438 w_1440 wp_47 (Or.inr ⟨8, _, _, rfl, rfl⟩), s_h0 mk_197⟩, (List.forall_mem_cons.mpr ⟨⟨s_ifeq dX12_pane_38 (by decide), s_mo_ifeq _ _⟩, (List.forall_mem_cons.mpr ⟨⟨s_iconst dX12_pane_41 (by decide +kernel), s_mo_push _ _⟩, (List.forall_mem_cons.mpr ⟨⟨s_goto dX12_pane_42 (by decide), s_mo_goto _⟩, (List.forall_mem_cons.mpr ⟨⟨s_ldIn dX12_pane_45 rfl, s_mo_ldI _ _⟩, (List.forall_mem_cons.mpr ⟨⟨s_bipush dX12_pane_46 (by decide +kernel), s_mo_push _ _⟩, (List.forall_mem_cons.mpr ⟨⟨s_icne dX12_pane_48 (by decide), s_mo_icne _ _⟩, (List.forall_mem_cons.mpr ⟨⟨s_ldAn dX12_pane_51 rfl, s_mo_ldA _ _⟩, (List.forall_mem_cons.mpr ⟨⟨s_ldIn dX12_pane_52 rfl, s_mo_ldI _ _⟩, (List.forall_mem_cons.mpr ⟨⟨s_sV mk_197 mk_192 ok_192 (by decide +kernel) dX12_pane_53 w_1461 w_1463 wp_50 (Or.inr ⟨8, _, _, rfl, rfl⟩), s_h0 mk_197⟩, (List.forall_mem_cons.mpr ⟨⟨s_goto dX12_pane_56 (by decide), s_mo_goto _⟩, (List.forall_mem_cons.mpr ⟨⟨s_ldAn dX12_pane_59 rfl, s_mo_ldA _ _⟩, (List.forall_mem_cons.mpr ⟨⟨s_ldIn dX12_pane_60 rfl, s_mo_ldI _ _⟩, (List.forall_mem_cons.mpr ⟨⟨s_ldIn dX12_pane_61 rfl, s_mo_ldI _ _⟩, (List.forall_mem_cons.mpr ⟨⟨s_sV mk_197 mk_158 ok_158 (by decide +kernel) dX12_pane_62 w_1469 w_1471 wp_52 (Or.inr ⟨8, _, _, rfl, rfl⟩), s_h0 mk_197⟩, (fun _ h => absurd h List.not_mem_nil)⟩)⟩)⟩)⟩)⟩)⟩)⟩)⟩)⟩)⟩)⟩)⟩)⟩)⟩)⟩)⟩)⟩)⟩)⟩)⟩)⟩)⟩)⟩)⟩)⟩)⟩)⟩)⟩)⟩)⟩)⟩)⟩)⟩)⟩)⟩)
set_option maxRecDepth 20000 in
theorem kb_197_1 : ∀ q ∈ tb_197_1, s_atx 197 yX12_pane cX12_pane q.1 q.2 := (List.forall_mem_cons.mpr ⟨s_r1 mk_197 dX12_pane_65, (fun _ h => absurd h List.not_mem_nil)⟩)
theorem km_197 : ∀ t ∈ tm_197, s_tok 197 t := (List.forall_mem_cons.mpr ⟨s_lift mk_197 kb_197_0, (List.forall_mem_cons.mpr ⟨s_lift mk_197 kb_197_1, (fun _ h => absurd h List.not_mem_nil)⟩)⟩)
theorem dX12_cart_0 : decode cX12_cart 0 = .ok (.aload_n 0, 1) := by decide +kernel
theorem dX12_cart_1 : decode cX12_cart 1 = .ok (.iconst 0, 1) := by decide +kernel
theorem dX12_cart_2 : decode cX12_cart 2 = .ok (.putfield 3, 3) := by decide +kernel
theorem dX12_cart_5 : decode cX12_cart 5 = .ok (.aload_n 0, 1) := by decide +kernel
theorem dX12_cart_6 : decode cX12_cart 6 = .ok (.iload_n 1, 1) := by decide +kernel
theorem dX12_cart_7 : decode cX12_cart 7 = .ok (.iconst 0, 1) := by decide +kernel
theorem dX12_cart_8 : decode cX12_cart 8 = .ok (.aload_n 0, 1) := by decide +kernel
theorem dX12_cart_9 : decode cX12_cart 9 = .ok (.getfield 13, 3) := by decide +kernel
theorem dX12_cart_12 : decode cX12_cart 12 = .ok (.iconst 2, 1) := by decide +kernel
theorem dX12_cart_13 : decode cX12_cart 13 = .ok (.iaload, 1) := by decide +kernel
theorem dX12_cart_14 : decode cX12_cart 14 = .ok (.iconst 1, 1) := by decide +kernel
theorem dX12_cart_15 : decode cX12_cart 15 = .ok (.isub, 1) := by decide +kernel
theorem dX12_cart_16 : decode cX12_cart 16 = .ok (.invokestatic 84, 3) := by decide +kernel
theorem dX12_cart_19 : decode cX12_cart 19 = .ok (.ifCond .ne 7, 3) := by decide +kernel
theorem dX12_cart_22 : decode cX12_cart 22 = .ok (.iconst 1, 1) := by decide +kernel
theorem dX12_cart_23 : decode cX12_cart 23 = .ok (.goto 4, 3) := by decide +kernel
theorem dX12_cart_26 : decode cX12_cart 26 = .ok (.iconst 0, 1) := by decide +kernel
theorem dX12_cart_27 : decode cX12_cart 27 = .ok (.iconst 1, 1) := by decide +kernel
theorem dX12_cart_28 : decode cX12_cart 28 = .ok (.invokevirtual 234, 3) := by decide +kernel
theorem dX12_cart_31 : decode cX12_cart 31 = .ok (.ifCond .ne 25, 3) := by decide +kernel
theorem dX12_cart_34 : decode cX12_cart 34 = .ok (.aload_n 0, 1) := by decide +kernel
theorem dX12_cart_35 : decode cX12_cart 35 = .ok (.iload_n 2, 1) := by decide +kernel
theorem dX12_cart_36 : decode cX12_cart 36 = .ok (.iconst 0, 1) := by decide +kernel
theorem dX12_cart_37 : decode cX12_cart 37 = .ok (.iconst 4, 1) := by decide +kernel
theorem dX12_cart_38 : decode cX12_cart 38 = .ok (.invokestatic 84, 3) := by decide +kernel
theorem dX12_cart_41 : decode cX12_cart 41 = .ok (.ifCond .ne 7, 3) := by decide +kernel
theorem dX12_cart_44 : decode cX12_cart 44 = .ok (.iconst 1, 1) := by decide +kernel
theorem dX12_cart_45 : decode cX12_cart 45 = .ok (.goto 4, 3) := by decide +kernel
theorem dX12_cart_48 : decode cX12_cart 48 = .ok (.iconst 0, 1) := by decide +kernel
theorem dX12_cart_49 : decode cX12_cart 49 = .ok (.iconst 2, 1) := by decide +kernel
theorem dX12_cart_50 : decode cX12_cart 50 = .ok (.invokevirtual 234, 3) := by decide +kernel
theorem dX12_cart_53 : decode cX12_cart 53 = .ok (.ifCond .eq 7, 3) := by decide +kernel
theorem dX12_cart_56 : decode cX12_cart 56 = .ok (.iconst 0, 1) := by decide +kernel
theorem dX12_cart_57 : decode cX12_cart 57 = .ok (.goto 9, 3) := by decide +kernel
theorem dX12_cart_60 : decode cX12_cart 60 = .ok (.aload_n 0, 1) := by decide +kernel
theorem dX12_cart_61 : decode cX12_cart 61 = .ok (.iload_n 1, 1) := by decide +kernel
theorem dX12_cart_62 : decode cX12_cart 62 = .ok (.iload_n 2, 1) := by decide +kernel
theorem dX12_cart_63 : decode cX12_cart 63 = .ok (.invokevirtual 252, 3) := by decide +kernel
theorem dX12_cart_66 : decode cX12_cart 66 = .ok (.ireturn, 1) := by decide +kernel
set_option maxRecDepth 20000 in
theorem kb_198_0 : ∀ q ∈ tb_198_0, s_atx 198 yX12_cart cX12_cart q.1 q.2 := (List.forall_mem_cons.mpr ⟨⟨s_ldAn dX12_cart_0 rfl, s_mo_ldA _ _⟩, (List.forall_mem_cons.mpr ⟨⟨s_iconst dX12_cart_1 (by decide +kernel), s_mo_push _ _⟩, (List.forall_mem_cons.mpr ⟨⟨s_putI (ci := 8) (k := 0) rfl (by decide) inX12 tyX12_ok nmX12 rfl rfl w_1221 dX12_cart_2, s_mo_putI _ _ _⟩, (List.forall_mem_cons.mpr ⟨⟨s_ldAn dX12_cart_5 rfl, s_mo_ldA _ _⟩, (List.forall_mem_cons.mpr ⟨⟨s_ldIn dX12_cart_6 rfl, s_mo_ldI _ _⟩, (List.forall_mem_cons.mpr ⟨⟨s_iconst dX12_cart_7 (by decide +kernel), s_mo_push _ _⟩, (List.forall_mem_cons.mpr ⟨⟨s_ldAn dX12_cart_8 rfl, s_mo_ldA _ _⟩, (List.forall_mem_cons.mpr ⟨⟨s_getf (ci := 8) (k := 1) rfl (by decide) inX12 w_1222 dX12_cart_9, s_mo_getf _ _ _⟩, (List.forall_mem_cons.mpr ⟨⟨s_iconst dX12_cart_12 (by decide +kernel), s_mo_push _ _⟩, (List.forall_mem_cons.mpr ⟨⟨s_iald dX12_cart_13, s_mo_iald _⟩, (List.forall_mem_cons.mpr ⟨⟨s_iconst dX12_cart_14 (by decide +kernel), s_mo_push _ _⟩, (List.forall_mem_cons.mpr ⟨⟨s_isub dX12_cart_15, s_mo_bin _ _⟩, (List.forall_mem_cons.mpr ⟨⟨s_sS mk_198 mk_150 ok_150 (by decide +kernel) dX12_cart_16 w_1458 w_1459, s_h0 mk_198⟩, (List.forall_mem_cons.mpr ⟨⟨s_ifne dX12_cart_19 (by decide), s_mo_ifne _ _⟩, (List.forall_mem_cons.mpr ⟨⟨s_iconst dX12_cart_22 (by decide +kernel), s_mo_push _ _⟩, (List.forall_mem_cons.mpr ⟨⟨s_goto dX12_cart_23 (by decide), s_mo_goto _⟩, (List.forall_mem_cons.mpr ⟨⟨s_iconst dX12_cart_26 (by decide +kernel), s_mo_push _ _⟩, (List.forall_mem_cons.mpr ⟨⟨s_iconst dX12_cart_27 (by decide +kernel), s_mo_push _ _⟩, (List.forall_mem_cons.mpr ⟨⟨s_sV mk_198 mk_149 ok_149 (by decide +kernel) dX12_cart_28 w_1438 w_1440 wp_47 (Or.inr ⟨8, _, _, rfl, rfl⟩), s_h0 mk_198⟩, (List.forall_mem_cons.mpr ⟨⟨s_ifne dX12_cart_31 (by decide), s_mo_ifne _ _⟩, (List.forall_mem_cons.mpr ⟨⟨s_ldAn dX12_cart_34 rfl, s_mo_ldA _ _⟩, (List.forall_mem_cons.mpr ⟨⟨s_ldIn dX12_cart_35 rfl, s_mo_ldI _ _⟩, (List.forall_mem_cons.mpr ⟨⟨s_iconst dX12_cart_36 (by decide +kernel), s_mo_push _ _⟩, (List.forall_mem_cons.mpr ⟨⟨s_iconst dX12_cart_37 (by decide +kernel), s_mo_push _ _⟩, (List.forall_mem_cons.mpr ⟨⟨s_sS mk_198 mk_150 ok_150 (by decide +kernel) dX12_cart_38 w_1458 w_1459, s_h0 mk_198⟩, (List.forall_mem_cons.mpr ⟨⟨s_ifne dX12_cart_41 (by decide), s_mo_ifne _ _⟩, (List.forall_mem_cons.mpr ⟨⟨s_iconst dX12_cart_44 (by decide +kernel), s_mo_push _ _⟩, (List.forall_mem_cons.mpr ⟨⟨s_goto dX12_cart_45 (by decide), s_mo_goto _⟩, (List.forall_mem_cons.mpr ⟨⟨s_iconst dX12_cart_48 (by decide +kernel), s_mo_push _ _⟩, (List.forall_mem_cons.mpr ⟨⟨s_iconst dX12_cart_49 (by decide +kernel), s_mo_push _ _⟩, (List.forall_mem_cons.mpr ⟨⟨s_sV mk_198 mk_149 ok_149 (by decide +kernel) dX12_cart_50 w_1438 w_1440 wp_47 (Or.inr ⟨8, _, _, rfl, rfl⟩), s_h0 mk_198⟩, (List.forall_mem_cons.mpr ⟨⟨s_ifeq dX12_cart_53 (by decide), s_mo_ifeq _ _⟩, (List.forall_mem_cons.mpr ⟨⟨s_iconst dX12_cart_56 (by decide +kernel), s_mo_push _ _⟩, (List.forall_mem_cons.mpr ⟨⟨s_goto dX12_cart_57 (by decide), s_mo_goto _⟩, (List.forall_mem_cons.mpr ⟨⟨s_ldAn dX12_cart_60 rfl, s_mo_ldA _ _⟩, (List.forall_mem_cons.mpr ⟨⟨s_ldIn dX12_cart_61 rfl, s_mo_ldI _ _⟩, (List.forall_mem_cons.mpr ⟨⟨s_ldIn dX12_cart_62 rfl, s_mo_ldI _ _⟩, (List.forall_mem_cons.mpr ⟨⟨s_sV mk_198 mk_193 ok_193 (by decide +kernel) dX12_cart_63 w_1479 w_1481 wp_53 (Or.inr ⟨8, _, _, rfl, rfl⟩), s_h0 mk_198⟩, (fun _ h => absurd h List.not_mem_nil)⟩)⟩)⟩)⟩)⟩)⟩)⟩)⟩)⟩)⟩)⟩)⟩)⟩)⟩)⟩)⟩)⟩)⟩)⟩)⟩)⟩)⟩)⟩)⟩)⟩)⟩)⟩)⟩)⟩)⟩)⟩)⟩)⟩)⟩)⟩)⟩)⟩)⟩)
set_option maxRecDepth 20000 in
theorem kb_198_1 : ∀ q ∈ tb_198_1, s_atx 198 yX12_cart cX12_cart q.1 q.2 := (List.forall_mem_cons.mpr ⟨s_r1 mk_198 dX12_cart_66, (fun _ h => absurd h List.not_mem_nil)⟩)
theorem km_198 : ∀ t ∈ tm_198, s_tok 198 t := (List.forall_mem_cons.mpr ⟨s_lift mk_198 kb_198_0, (List.forall_mem_cons.mpr ⟨s_lift mk_198 kb_198_1, (fun _ h => absurd h List.not_mem_nil)⟩)⟩)
theorem dX12_remembers_0 : decode cX12_remembers 0 = .ok (.sipush 180, 3) := by decide +kernel
theorem dX12_remembers_3 : decode cX12_remembers 3 = .ok (.istore_n 1, 1) := by decide +kernel
theorem dX12_remembers_4 : decode cX12_remembers 4 = .ok (.aload_n 0, 1) := by decide +kernel
theorem dX12_remembers_5 : decode cX12_remembers 5 = .ok (.getfield 77, 3) := by decide +kernel
theorem dX12_remembers_8 : decode cX12_remembers 8 = .ok (.bipush 12, 2) := by decide +kernel
theorem dX12_remembers_10 : decode cX12_remembers 10 = .ok (.if_icmp .ne 36, 3) := by decide +kernel
theorem dX12_remembers_13 : decode cX12_remembers 13 = .ok (.iconst 0, 1) := by decide +kernel
theorem dX12_remembers_14 : decode cX12_remembers 14 = .ok (.istore_n 2, 1) := by decide +kernel
theorem dX12_remembers_15 : decode cX12_remembers 15 = .ok (.iload_n 2, 1) := by decide +kernel
theorem dX12_remembers_16 : decode cX12_remembers 16 = .ok (.iload_n 1, 1) := by decide +kernel
theorem dX12_remembers_17 : decode cX12_remembers 17 = .ok (.bipush 11, 2) := by decide +kernel
theorem dX12_remembers_19 : decode cX12_remembers 19 = .ok (.imul, 1) := by decide +kernel
theorem dX12_remembers_20 : decode cX12_remembers 20 = .ok (.if_icmp .ge 23, 3) := by decide +kernel
theorem dX12_remembers_23 : decode cX12_remembers 23 = .ok (.aload_n 0, 1) := by decide +kernel
theorem dX12_remembers_24 : decode cX12_remembers 24 = .ok (.getfield 23, 3) := by decide +kernel
theorem dX12_remembers_27 : decode cX12_remembers 27 = .ok (.iload_n 2, 1) := by decide +kernel
theorem dX12_remembers_28 : decode cX12_remembers 28 = .ok (.aload_n 0, 1) := by decide +kernel
theorem dX12_remembers_29 : decode cX12_remembers 29 = .ok (.getfield 23, 3) := by decide +kernel
theorem dX12_remembers_32 : decode cX12_remembers 32 = .ok (.iload_n 2, 1) := by decide +kernel
theorem dX12_remembers_33 : decode cX12_remembers 33 = .ok (.iload_n 1, 1) := by decide +kernel
theorem dX12_remembers_34 : decode cX12_remembers 34 = .ok (.iadd, 1) := by decide +kernel
theorem dX12_remembers_35 : decode cX12_remembers 35 = .ok (.iaload, 1) := by decide +kernel
theorem dX12_remembers_36 : decode cX12_remembers 36 = .ok (.iastore, 1) := by decide +kernel
theorem dX12_remembers_37 : decode cX12_remembers 37 = .ok (.iinc 2 1, 3) := by decide +kernel
theorem dX12_remembers_40 : decode cX12_remembers 40 = .ok (.goto (-25), 3) := by decide +kernel
theorem dX12_remembers_43 : decode cX12_remembers 43 = .ok (.goto 13, 3) := by decide +kernel
theorem dX12_remembers_46 : decode cX12_remembers 46 = .ok (.aload_n 0, 1) := by decide +kernel
theorem dX12_remembers_47 : decode cX12_remembers 47 = .ok (.dup, 1) := by decide +kernel
theorem dX12_remembers_48 : decode cX12_remembers 48 = .ok (.getfield 77, 3) := by decide +kernel
theorem dX12_remembers_51 : decode cX12_remembers 51 = .ok (.iconst 1, 1) := by decide +kernel
theorem dX12_remembers_52 : decode cX12_remembers 52 = .ok (.iadd, 1) := by decide +kernel
theorem dX12_remembers_53 : decode cX12_remembers 53 = .ok (.putfield 77, 3) := by decide +kernel
theorem dX12_remembers_56 : decode cX12_remembers 56 = .ok (.iconst 0, 1) := by decide +kernel
theorem dX12_remembers_57 : decode cX12_remembers 57 = .ok (.istore_n 2, 1) := by decide +kernel
theorem dX12_remembers_58 : decode cX12_remembers 58 = .ok (.iload_n 2, 1) := by decide +kernel
theorem dX12_remembers_59 : decode cX12_remembers 59 = .ok (.iload_n 1, 1) := by decide +kernel
theorem dX12_remembers_60 : decode cX12_remembers 60 = .ok (.if_icmp .ge 33, 3) := by decide +kernel
theorem dX12_remembers_63 : decode cX12_remembers 63 = .ok (.aload_n 0, 1) := by decide +kernel
theorem dX12_remembers_64 : decode cX12_remembers 64 = .ok (.getfield 23, 3) := by decide +kernel
theorem dX12_remembers_67 : decode cX12_remembers 67 = .ok (.iload_n 1, 1) := by decide +kernel
theorem dX12_remembers_68 : decode cX12_remembers 68 = .ok (.aload_n 0, 1) := by decide +kernel
theorem dX12_remembers_69 : decode cX12_remembers 69 = .ok (.getfield 77, 3) := by decide +kernel
theorem dX12_remembers_72 : decode cX12_remembers 72 = .ok (.iconst 1, 1) := by decide +kernel
theorem dX12_remembers_73 : decode cX12_remembers 73 = .ok (.isub, 1) := by decide +kernel
theorem dX12_remembers_74 : decode cX12_remembers 74 = .ok (.imul, 1) := by decide +kernel
theorem dX12_remembers_75 : decode cX12_remembers 75 = .ok (.iload_n 2, 1) := by decide +kernel
theorem dX12_remembers_76 : decode cX12_remembers 76 = .ok (.iadd, 1) := by decide +kernel
theorem dX12_remembers_77 : decode cX12_remembers 77 = .ok (.aload_n 0, 1) := by decide +kernel
theorem dX12_remembers_78 : decode cX12_remembers 78 = .ok (.getfield 13, 3) := by decide +kernel
theorem dX12_remembers_81 : decode cX12_remembers 81 = .ok (.bipush 7, 2) := by decide +kernel
theorem dX12_remembers_83 : decode cX12_remembers 83 = .ok (.iload_n 2, 1) := by decide +kernel
theorem dX12_remembers_84 : decode cX12_remembers 84 = .ok (.iadd, 1) := by decide +kernel
theorem dX12_remembers_85 : decode cX12_remembers 85 = .ok (.iaload, 1) := by decide +kernel
theorem dX12_remembers_86 : decode cX12_remembers 86 = .ok (.iastore, 1) := by decide +kernel
theorem dX12_remembers_87 : decode cX12_remembers 87 = .ok (.iinc 2 1, 3) := by decide +kernel
theorem dX12_remembers_90 : decode cX12_remembers 90 = .ok (.goto (-32), 3) := by decide +kernel
theorem dX12_remembers_93 : decode cX12_remembers 93 = .ok (.return_, 1) := by decide +kernel
set_option maxRecDepth 20000 in
theorem kb_199_0 : ∀ q ∈ tb_199_0, s_atx 199 yX12_remembers cX12_remembers q.1 q.2 := (List.forall_mem_cons.mpr ⟨⟨s_sipush dX12_remembers_0 (by decide +kernel), s_mo_push _ _⟩, (List.forall_mem_cons.mpr ⟨⟨s_stIn dX12_remembers_3 rfl, s_mo_stI _ _⟩, (List.forall_mem_cons.mpr ⟨⟨s_ldAn dX12_remembers_4 rfl, s_mo_ldA _ _⟩, (List.forall_mem_cons.mpr ⟨⟨s_getf (ci := 8) (k := 6) rfl (by decide) inX12 w_1227 dX12_remembers_5, s_mo_getf _ _ _⟩, (List.forall_mem_cons.mpr ⟨⟨s_bipush dX12_remembers_8 (by decide +kernel), s_mo_push _ _⟩, (List.forall_mem_cons.mpr ⟨⟨s_icne dX12_remembers_10 (by decide), s_mo_icne _ _⟩, (List.forall_mem_cons.mpr ⟨⟨s_iconst dX12_remembers_13 (by decide +kernel), s_mo_push _ _⟩, (List.forall_mem_cons.mpr ⟨⟨s_stIn dX12_remembers_14 rfl, s_mo_stI _ _⟩, (List.forall_mem_cons.mpr ⟨⟨s_ldIn dX12_remembers_15 rfl, s_mo_ldI _ _⟩, (List.forall_mem_cons.mpr ⟨⟨s_ldIn dX12_remembers_16 rfl, s_mo_ldI _ _⟩, (List.forall_mem_cons.mpr ⟨⟨s_bipush dX12_remembers_17 (by decide +kernel), s_mo_push _ _⟩, (List.forall_mem_cons.mpr ⟨⟨s_imul dX12_remembers_19, s_mo_bin _ _⟩, (List.forall_mem_cons.mpr ⟨⟨s_icge dX12_remembers_20 (by decide), s_mo_icge _ _⟩, (List.forall_mem_cons.mpr ⟨⟨s_ldAn dX12_remembers_23 rfl, s_mo_ldA _ _⟩, (List.forall_mem_cons.mpr ⟨⟨s_getf (ci := 8) (k := 5) rfl (by decide) inX12 w_1226 dX12_remembers_24, s_mo_getf _ _ _⟩, (List.forall_mem_cons.mpr ⟨⟨s_ldIn dX12_remembers_27 rfl, s_mo_ldI _ _⟩, (List.forall_mem_cons.mpr ⟨⟨s_ldAn dX12_remembers_28 rfl, s_mo_ldA _ _⟩, (List.forall_mem_cons.mpr ⟨⟨s_getf (ci := 8) (k := 5) rfl (by decide) inX12 w_1226 dX12_remembers_29, s_mo_getf _ _ _⟩, (List.forall_mem_cons.mpr ⟨⟨s_ldIn dX12_remembers_32 rfl, s_mo_ldI _ _⟩, (List.forall_mem_cons.mpr ⟨⟨s_ldIn dX12_remembers_33 rfl, s_mo_ldI _ _⟩, (List.forall_mem_cons.mpr ⟨⟨s_iadd dX12_remembers_34, s_mo_bin _ _⟩, (List.forall_mem_cons.mpr ⟨⟨s_iald dX12_remembers_35, s_mo_iald _⟩, (List.forall_mem_cons.mpr ⟨⟨s_iast dX12_remembers_36, s_mo_iast _⟩, (List.forall_mem_cons.mpr ⟨⟨s_inc dX12_remembers_37 (by decide +kernel), s_mo_inc _ _ _⟩, (List.forall_mem_cons.mpr ⟨⟨s_goto dX12_remembers_40 (by decide), s_mo_goto _⟩, (List.forall_mem_cons.mpr ⟨⟨s_goto dX12_remembers_43 (by decide), s_mo_goto _⟩, (List.forall_mem_cons.mpr ⟨⟨s_ldAn dX12_remembers_46 rfl, s_mo_ldA _ _⟩, (List.forall_mem_cons.mpr ⟨⟨s_dup dX12_remembers_47, s_mo_dup _⟩, (List.forall_mem_cons.mpr ⟨⟨s_getf (ci := 8) (k := 6) rfl (by decide) inX12 w_1227 dX12_remembers_48, s_mo_getf _ _ _⟩, (List.forall_mem_cons.mpr ⟨⟨s_iconst dX12_remembers_51 (by decide +kernel), s_mo_push _ _⟩, (List.forall_mem_cons.mpr ⟨⟨s_iadd dX12_remembers_52, s_mo_bin _ _⟩, (List.forall_mem_cons.mpr ⟨⟨s_putI (ci := 8) (k := 6) rfl (by decide) inX12 tyX12_ok nmX12 rfl rfl w_1227 dX12_remembers_53, s_mo_putI _ _ _⟩, (List.forall_mem_cons.mpr ⟨⟨s_iconst dX12_remembers_56 (by decide +kernel), s_mo_push _ _⟩, (List.forall_mem_cons.mpr ⟨⟨s_stIn dX12_remembers_57 rfl, s_mo_stI _ _⟩, (List.forall_mem_cons.mpr ⟨⟨s_ldIn dX12_remembers_58 rfl, s_mo_ldI _ _⟩, (List.forall_mem_cons.mpr ⟨⟨s_ldIn dX12_remembers_59 rfl, s_mo_ldI _ _⟩, (List.forall_mem_cons.mpr ⟨⟨s_icge dX12_remembers_60 (by decide), s_mo_icge _ _⟩, (List.forall_mem_cons.mpr ⟨⟨s_ldAn dX12_remembers_63 rfl, s_mo_ldA _ _⟩, (fun _ h => absurd h List.not_mem_nil)⟩)⟩)⟩)⟩)⟩)⟩)⟩)⟩)⟩)⟩)⟩)⟩)⟩)⟩)⟩)⟩)⟩)⟩)⟩)⟩)⟩)⟩)⟩)⟩)⟩)⟩)⟩)⟩)⟩)⟩)⟩)⟩)⟩)⟩)⟩)⟩)⟩)⟩)
set_option maxRecDepth 20000 in
theorem kb_199_1 : ∀ q ∈ tb_199_1, s_atx 199 yX12_remembers cX12_remembers q.1 q.2 := (List.forall_mem_cons.mpr ⟨⟨s_getf (ci := 8) (k := 5) rfl (by decide) inX12 w_1226 dX12_remembers_64, s_mo_getf _ _ _⟩, (List.forall_mem_cons.mpr ⟨⟨s_ldIn dX12_remembers_67 rfl, s_mo_ldI _ _⟩, (List.forall_mem_cons.mpr ⟨⟨s_ldAn dX12_remembers_68 rfl, s_mo_ldA _ _⟩, (List.forall_mem_cons.mpr ⟨⟨s_getf (ci := 8) (k := 6) rfl (by decide) inX12 w_1227 dX12_remembers_69, s_mo_getf _ _ _⟩, (List.forall_mem_cons.mpr ⟨⟨s_iconst dX12_remembers_72 (by decide +kernel), s_mo_push _ _⟩, (List.forall_mem_cons.mpr ⟨⟨s_isub dX12_remembers_73, s_mo_bin _ _⟩, (List.forall_mem_cons.mpr ⟨⟨s_imul dX12_remembers_74, s_mo_bin _ _⟩, (List.forall_mem_cons.mpr ⟨⟨s_ldIn dX12_remembers_75 rfl, s_mo_ldI _ _⟩, (List.forall_mem_cons.mpr ⟨⟨s_iadd dX12_remembers_76, s_mo_bin _ _⟩, (List.forall_mem_cons.mpr ⟨⟨s_ldAn dX12_remembers_77 rfl, s_mo_ldA _ _⟩, (List.forall_mem_cons.mpr ⟨⟨s_getf (ci := 8) (k := 1) rfl (by decide) inX12 w_1222 dX12_remembers_78, s_mo_getf _ _ _⟩, (List.forall_mem_cons.mpr ⟨⟨s_bipush dX12_remembers_81 (by decide +kernel), s_mo_push _ _⟩, (List.forall_mem_cons.mpr ⟨⟨s_ldIn dX12_remembers_83 rfl, s_mo_ldI _ _⟩, (List.forall_mem_cons.mpr ⟨⟨s_iadd dX12_remembers_84, s_mo_bin _ _⟩, (List.forall_mem_cons.mpr ⟨⟨s_iald dX12_remembers_85, s_mo_iald _⟩, (List.forall_mem_cons.mpr ⟨⟨s_iast dX12_remembers_86, s_mo_iast _⟩, (List.forall_mem_cons.mpr ⟨⟨s_inc dX12_remembers_87 (by decide +kernel), s_mo_inc _ _ _⟩, (List.forall_mem_cons.mpr ⟨⟨s_goto dX12_remembers_90 (by decide), s_mo_goto _⟩, (List.forall_mem_cons.mpr ⟨s_r0 mk_199 dX12_remembers_93, (fun _ h => absurd h List.not_mem_nil)⟩)⟩)⟩)⟩)⟩)⟩)⟩)⟩)⟩)⟩)⟩)⟩)⟩)⟩)⟩)⟩)⟩)⟩)⟩)
theorem km_199 : ∀ t ∈ tm_199, s_tok 199 t := (List.forall_mem_cons.mpr ⟨s_lift mk_199 kb_199_0, (List.forall_mem_cons.mpr ⟨s_lift mk_199 kb_199_1, (fun _ h => absurd h List.not_mem_nil)⟩)⟩)
theorem dX12_undo_0 : decode cX12_undo 0 = .ok (.aload_n 0, 1) := by decide +kernel
theorem dX12_undo_1 : decode cX12_undo 1 = .ok (.iconst 0, 1) := by decide +kernel
theorem dX12_undo_2 : decode cX12_undo 2 = .ok (.putfield 3, 3) := by decide +kernel
theorem dX12_undo_5 : decode cX12_undo 5 = .ok (.aload_n 0, 1) := by decide +kernel
theorem dX12_undo_6 : decode cX12_undo 6 = .ok (.getfield 77, 3) := by decide +kernel
theorem dX12_undo_9 : decode cX12_undo 9 = .ok (.ifCond .ne 5, 3) := by decide +kernel
theorem dX12_undo_12 : decode cX12_undo 12 = .ok (.iconst 0, 1) := by decide +kernel
theorem dX12_undo_13 : decode cX12_undo 13 = .ok (.ireturn, 1) := by decide +kernel
theorem dX12_undo_14 : decode cX12_undo 14 = .ok (.aload_n 0, 1) := by decide +kernel
theorem dX12_undo_15 : decode cX12_undo 15 = .ok (.dup, 1) := by decide +kernel
theorem dX12_undo_16 : decode cX12_undo 16 = .ok (.getfield 77, 3) := by decide +kernel
theorem dX12_undo_19 : decode cX12_undo 19 = .ok (.iconst 1, 1) := by decide +kernel
theorem dX12_undo_20 : decode cX12_undo 20 = .ok (.isub, 1) := by decide +kernel
theorem dX12_undo_21 : decode cX12_undo 21 = .ok (.putfield 77, 3) := by decide +kernel
theorem dX12_undo_24 : decode cX12_undo 24 = .ok (.iconst 0, 1) := by decide +kernel
theorem dX12_undo_25 : decode cX12_undo 25 = .ok (.istore_n 1, 1) := by decide +kernel
theorem dX12_undo_26 : decode cX12_undo 26 = .ok (.iload_n 1, 1) := by decide +kernel
theorem dX12_undo_27 : decode cX12_undo 27 = .ok (.sipush 180, 3) := by decide +kernel
theorem dX12_undo_30 : decode cX12_undo 30 = .ok (.if_icmp .ge 33, 3) := by decide +kernel
theorem dX12_undo_33 : decode cX12_undo 33 = .ok (.aload_n 0, 1) := by decide +kernel
theorem dX12_undo_34 : decode cX12_undo 34 = .ok (.getfield 13, 3) := by decide +kernel
theorem dX12_undo_37 : decode cX12_undo 37 = .ok (.bipush 7, 2) := by decide +kernel
theorem dX12_undo_39 : decode cX12_undo 39 = .ok (.iload_n 1, 1) := by decide +kernel
theorem dX12_undo_40 : decode cX12_undo 40 = .ok (.iadd, 1) := by decide +kernel
theorem dX12_undo_41 : decode cX12_undo 41 = .ok (.aload_n 0, 1) := by decide +kernel
theorem dX12_undo_42 : decode cX12_undo 42 = .ok (.getfield 23, 3) := by decide +kernel
theorem dX12_undo_45 : decode cX12_undo 45 = .ok (.sipush 180, 3) := by decide +kernel
theorem dX12_undo_48 : decode cX12_undo 48 = .ok (.aload_n 0, 1) := by decide +kernel
theorem dX12_undo_49 : decode cX12_undo 49 = .ok (.getfield 77, 3) := by decide +kernel
theorem dX12_undo_52 : decode cX12_undo 52 = .ok (.imul, 1) := by decide +kernel
theorem dX12_undo_53 : decode cX12_undo 53 = .ok (.iload_n 1, 1) := by decide +kernel
theorem dX12_undo_54 : decode cX12_undo 54 = .ok (.iadd, 1) := by decide +kernel
theorem dX12_undo_55 : decode cX12_undo 55 = .ok (.iaload, 1) := by decide +kernel
theorem dX12_undo_56 : decode cX12_undo 56 = .ok (.iastore, 1) := by decide +kernel
theorem dX12_undo_57 : decode cX12_undo 57 = .ok (.iinc 1 1, 3) := by decide +kernel
theorem dX12_undo_60 : decode cX12_undo 60 = .ok (.goto (-34), 3) := by decide +kernel
theorem dX12_undo_63 : decode cX12_undo 63 = .ok (.iconst 1, 1) := by decide +kernel
theorem dX12_undo_64 : decode cX12_undo 64 = .ok (.ireturn, 1) := by decide +kernel
set_option maxRecDepth 20000 in
theorem kb_200_0 : ∀ q ∈ tb_200_0, s_atx 200 yX12_undo cX12_undo q.1 q.2 := (List.forall_mem_cons.mpr ⟨⟨s_ldAn dX12_undo_0 rfl, s_mo_ldA _ _⟩, (List.forall_mem_cons.mpr ⟨⟨s_iconst dX12_undo_1 (by decide +kernel), s_mo_push _ _⟩, (List.forall_mem_cons.mpr ⟨⟨s_putI (ci := 8) (k := 0) rfl (by decide) inX12 tyX12_ok nmX12 rfl rfl w_1221 dX12_undo_2, s_mo_putI _ _ _⟩, (List.forall_mem_cons.mpr ⟨⟨s_ldAn dX12_undo_5 rfl, s_mo_ldA _ _⟩, (List.forall_mem_cons.mpr ⟨⟨s_getf (ci := 8) (k := 6) rfl (by decide) inX12 w_1227 dX12_undo_6, s_mo_getf _ _ _⟩, (List.forall_mem_cons.mpr ⟨⟨s_ifne dX12_undo_9 (by decide), s_mo_ifne _ _⟩, (List.forall_mem_cons.mpr ⟨⟨s_iconst dX12_undo_12 (by decide +kernel), s_mo_push _ _⟩, (List.forall_mem_cons.mpr ⟨s_r2 mk_200 dX12_undo_13, (List.forall_mem_cons.mpr ⟨⟨s_ldAn dX12_undo_14 rfl, s_mo_ldA _ _⟩, (List.forall_mem_cons.mpr ⟨⟨s_dup dX12_undo_15, s_mo_dup _⟩, (List.forall_mem_cons.mpr ⟨⟨s_getf (ci := 8) (k := 6) rfl (by decide) inX12 w_1227 dX12_undo_16, s_mo_getf _ _ _⟩, (List.forall_mem_cons.mpr ⟨⟨s_iconst dX12_undo_19 (by decide +kernel), s_mo_push _ _⟩, (List.forall_mem_cons.mpr ⟨⟨s_isub dX12_undo_20, s_mo_bin _ _⟩, (List.forall_mem_cons.mpr ⟨⟨s_putI (ci := 8) (k := 6) rfl (by decide) inX12 tyX12_ok nmX12 rfl rfl w_1227 dX12_undo_21, s_mo_putI _ _ _⟩, (List.forall_mem_cons.mpr ⟨⟨s_iconst dX12_undo_24 (by decide +kernel), s_mo_push _ _⟩, (List.forall_mem_cons.mpr ⟨⟨s_stIn dX12_undo_25 rfl, s_mo_stI _ _⟩, (List.forall_mem_cons.mpr ⟨⟨s_ldIn dX12_undo_26 rfl, s_mo_ldI _ _⟩, (List.forall_mem_cons.mpr ⟨⟨s_sipush dX12_undo_27 (by decide +kernel), s_mo_push _ _⟩, (List.forall_mem_cons.mpr ⟨⟨s_icge dX12_undo_30 (by decide), s_mo_icge _ _⟩, (List.forall_mem_cons.mpr ⟨⟨s_ldAn dX12_undo_33 rfl, s_mo_ldA _ _⟩, (List.forall_mem_cons.mpr ⟨⟨s_getf (ci := 8) (k := 1) rfl (by decide) inX12 w_1222 dX12_undo_34, s_mo_getf _ _ _⟩, (List.forall_mem_cons.mpr ⟨⟨s_bipush dX12_undo_37 (by decide +kernel), s_mo_push _ _⟩, (List.forall_mem_cons.mpr ⟨⟨s_ldIn dX12_undo_39 rfl, s_mo_ldI _ _⟩, (List.forall_mem_cons.mpr ⟨⟨s_iadd dX12_undo_40, s_mo_bin _ _⟩, (List.forall_mem_cons.mpr ⟨⟨s_ldAn dX12_undo_41 rfl, s_mo_ldA _ _⟩, (List.forall_mem_cons.mpr ⟨⟨s_getf (ci := 8) (k := 5) rfl (by decide) inX12 w_1226 dX12_undo_42, s_mo_getf _ _ _⟩, (List.forall_mem_cons.mpr ⟨⟨s_sipush dX12_undo_45 (by decide +kernel), s_mo_push _ _⟩, (List.forall_mem_cons.mpr ⟨⟨s_ldAn dX12_undo_48 rfl, s_mo_ldA _ _⟩, (List.forall_mem_cons.mpr ⟨⟨s_getf (ci := 8) (k := 6) rfl (by decide) inX12 w_1227 dX12_undo_49, s_mo_getf _ _ _⟩, (List.forall_mem_cons.mpr ⟨⟨s_imul dX12_undo_52, s_mo_bin _ _⟩, (List.forall_mem_cons.mpr ⟨⟨s_ldIn dX12_undo_53 rfl, s_mo_ldI _ _⟩, (List.forall_mem_cons.mpr ⟨⟨s_iadd dX12_undo_54, s_mo_bin _ _⟩, (List.forall_mem_cons.mpr ⟨⟨s_iald dX12_undo_55, s_mo_iald _⟩, (List.forall_mem_cons.mpr ⟨⟨s_iast dX12_undo_56, s_mo_iast _⟩, (List.forall_mem_cons.mpr ⟨⟨s_inc dX12_undo_57 (by decide +kernel), s_mo_inc _ _ _⟩, (List.forall_mem_cons.mpr ⟨⟨s_goto dX12_undo_60 (by decide), s_mo_goto _⟩, (List.forall_mem_cons.mpr ⟨⟨s_iconst dX12_undo_63 (by decide +kernel), s_mo_push _ _⟩, (fun _ h => absurd h List.not_mem_nil)⟩)⟩)⟩)⟩)⟩)⟩)⟩)⟩)⟩)⟩)⟩)⟩)⟩)⟩)⟩)⟩)⟩)⟩)⟩)⟩)⟩)⟩)⟩)⟩)⟩)⟩)⟩)⟩)⟩)⟩)⟩)⟩)⟩)⟩)⟩)⟩)⟩)
set_option maxRecDepth 20000 in
theorem kb_200_1 : ∀ q ∈ tb_200_1, s_atx 200 yX12_undo cX12_undo q.1 q.2 := (List.forall_mem_cons.mpr ⟨s_r2 mk_200 dX12_undo_64, (fun _ h => absurd h List.not_mem_nil)⟩)
theorem km_200 : ∀ t ∈ tm_200, s_tok 200 t := (List.forall_mem_cons.mpr ⟨s_lift mk_200 kb_200_0, (List.forall_mem_cons.mpr ⟨s_lift mk_200 kb_200_1, (fun _ h => absurd h List.not_mem_nil)⟩)⟩)
theorem dX12_strew_0 : decode cX12_strew 0 = .ok (.aload_n 0, 1) := by decide +kernel
theorem dX12_strew_1 : decode cX12_strew 1 = .ok (.iconst 0, 1) := by decide +kernel
theorem dX12_strew_2 : decode cX12_strew 2 = .ok (.putfield 3, 3) := by decide +kernel
theorem dX12_strew_5 : decode cX12_strew 5 = .ok (.aload_n 0, 1) := by decide +kernel
theorem dX12_strew_6 : decode cX12_strew 6 = .ok (.aload_n 0, 1) := by decide +kernel
theorem dX12_strew_7 : decode cX12_strew 7 = .ok (.iload_n 1, 1) := by decide +kernel
theorem dX12_strew_8 : decode cX12_strew 8 = .ok (.invokevirtual 264, 3) := by decide +kernel
theorem dX12_strew_11 : decode cX12_strew 11 = .ok (.iconst 1, 1) := by decide +kernel
theorem dX12_strew_12 : decode cX12_strew 12 = .ok (.invokevirtual 234, 3) := by decide +kernel
theorem dX12_strew_15 : decode cX12_strew 15 = .ok (.ifCond .ne 26, 3) := by decide +kernel
theorem dX12_strew_18 : decode cX12_strew 18 = .ok (.aload_n 0, 1) := by decide +kernel
theorem dX12_strew_19 : decode cX12_strew 19 = .ok (.iload_n 2, 1) := by decide +kernel
theorem dX12_strew_20 : decode cX12_strew 20 = .ok (.iconst 0, 1) := by decide +kernel
theorem dX12_strew_21 : decode cX12_strew 21 = .ok (.bipush 100, 2) := by decide +kernel
theorem dX12_strew_23 : decode cX12_strew 23 = .ok (.invokestatic 84, 3) := by decide +kernel
theorem dX12_strew_26 : decode cX12_strew 26 = .ok (.ifCond .ne 7, 3) := by decide +kernel
theorem dX12_strew_29 : decode cX12_strew 29 = .ok (.iconst 1, 1) := by decide +kernel
theorem dX12_strew_30 : decode cX12_strew 30 = .ok (.goto 4, 3) := by decide +kernel
theorem dX12_strew_33 : decode cX12_strew 33 = .ok (.iconst 0, 1) := by decide +kernel
theorem dX12_strew_34 : decode cX12_strew 34 = .ok (.iconst 2, 1) := by decide +kernel
theorem dX12_strew_35 : decode cX12_strew 35 = .ok (.invokevirtual 234, 3) := by decide +kernel
theorem dX12_strew_38 : decode cX12_strew 38 = .ok (.ifCond .eq 5, 3) := by decide +kernel
theorem dX12_strew_41 : decode cX12_strew 41 = .ok (.iconst 0, 1) := by decide +kernel
theorem dX12_strew_42 : decode cX12_strew 42 = .ok (.ireturn, 1) := by decide +kernel
theorem dX12_strew_43 : decode cX12_strew 43 = .ok (.aload_n 0, 1) := by decide +kernel
theorem dX12_strew_44 : decode cX12_strew 44 = .ok (.invokevirtual 267, 3) := by decide +kernel
theorem dX12_strew_47 : decode cX12_strew 47 = .ok (.aload_n 0, 1) := by decide +kernel
theorem dX12_strew_48 : decode cX12_strew 48 = .ok (.iload_n 1, 1) := by decide +kernel
theorem dX12_strew_49 : decode cX12_strew 49 = .ok (.iconst 2, 1) := by decide +kernel
theorem dX12_strew_50 : decode cX12_strew 50 = .ok (.invokevirtual 88, 3) := by decide +kernel
theorem dX12_strew_53 : decode cX12_strew 53 = .ok (.istore_n 3, 1) := by decide +kernel
theorem dX12_strew_54 : decode cX12_strew 54 = .ok (.aload_n 0, 1) := by decide +kernel
theorem dX12_strew_55 : decode cX12_strew 55 = .ok (.iload_n 1, 1) := by decide +kernel
theorem dX12_strew_56 : decode cX12_strew 56 = .ok (.iconst 2, 1) := by decide +kernel
theorem dX12_strew_57 : decode cX12_strew 57 = .ok (.iload_n 2, 1) := by decide +kernel
theorem dX12_strew_58 : decode cX12_strew 58 = .ok (.invokevirtual 69, 3) := by decide +kernel
theorem dX12_strew_61 : decode cX12_strew 61 = .ok (.iload_n 3, 1) := by decide +kernel
theorem dX12_strew_62 : decode cX12_strew 62 = .ok (.ireturn, 1) := by decide +kernel
set_option maxRecDepth 20000 in
theorem kb_201_0 : ∀ q ∈ tb_201_0, s_atx 201 yX12_strew cX12_strew q.1 q.2 := (List.forall_mem_cons.mpr ⟨⟨s_ldAn dX12_strew_0 rfl, s_mo_ldA _ _⟩, (List.forall_mem_cons.mpr ⟨⟨s_iconst dX12_strew_1 (by decide +kernel), s_mo_push _ _⟩, (List.forall_mem_cons.mpr ⟨⟨s_putI (ci := 8) (k := 0) rfl (by decide) inX12 tyX12_ok nmX12 rfl rfl w_1221 dX12_strew_2, s_mo_putI _ _ _⟩, (List.forall_mem_cons.mpr ⟨⟨s_ldAn dX12_strew_5 rfl, s_mo_ldA _ _⟩, (List.forall_mem_cons.mpr ⟨⟨s_ldAn dX12_strew_6 rfl, s_mo_ldA _ _⟩, (List.forall_mem_cons.mpr ⟨⟨s_ldIn dX12_strew_7 rfl, s_mo_ldI _ _⟩, (List.forall_mem_cons.mpr ⟨⟨s_sV mk_201 mk_160 ok_160 (by decide +kernel) dX12_strew_8 w_1450 w_1452 wp_48 (Or.inr ⟨8, _, _, rfl, rfl⟩), s_h0 mk_201⟩, (List.forall_mem_cons.mpr ⟨⟨s_iconst dX12_strew_11 (by decide +kernel), s_mo_push _ _⟩, (List.forall_mem_cons.mpr ⟨⟨s_sV mk_201 mk_149 ok_149 (by decide +kernel) dX12_strew_12 w_1438 w_1440 wp_47 (Or.inr ⟨8, _, _, rfl, rfl⟩), s_h0 mk_201⟩, (List.forall_mem_cons.mpr ⟨⟨s_ifne dX12_strew_15 (by decide), s_mo_ifne _ _⟩, (List.forall_mem_cons.mpr ⟨⟨s_ldAn dX12_strew_18 rfl, s_mo_ldA _ _⟩, (List.forall_mem_cons.mpr ⟨⟨s_ldIn dX12_strew_19 rfl, s_mo_ldI _ _⟩, (List.forall_mem_cons.mpr ⟨⟨s_iconst dX12_strew_20 (by decide +kernel), s_mo_push _ _⟩, (List.forall_mem_cons.mpr ⟨⟨s_bipush dX12_strew_21 (by decide +kernel), s_mo_push _ _⟩, (List.forall_mem_cons.mpr ⟨⟨s_sS mk_201 mk_150 ok_150 (by decide +kernel) dX12_strew_23 w_1458 w_1459, s_h0 mk_201⟩, (List.forall_mem_cons.mpr ⟨⟨s_ifne dX12_strew_26 (by decide), s_mo_ifne _ _⟩, (List.forall_mem_cons.mpr ⟨⟨s_iconst dX12_strew_29 (by decide +kernel), s_mo_push _ _⟩, (List.forall_mem_cons.mpr ⟨⟨s_goto dX12_strew_30 (by decide), s_mo_goto _⟩, (List.forall_mem_cons.mpr ⟨⟨s_iconst dX12_strew_33 (by decide +kernel), s_mo_push _ _⟩, (List.forall_mem_cons.mpr ⟨⟨s_iconst dX12_strew_34 (by decide +kernel), s_mo_push _ _⟩, (List.forall_mem_cons.mpr ⟨⟨s_sV mk_201 mk_149 ok_149 (by decide +kernel) dX12_strew_35 w_1438 w_1440 wp_47 (Or.inr ⟨8, _, _, rfl, rfl⟩), s_h0 mk_201⟩, (List.forall_mem_cons.mpr ⟨⟨s_ifeq dX12_strew_38 (by decide), s_mo_ifeq _ _⟩, (List.forall_mem_cons.mpr ⟨⟨s_iconst dX12_strew_41 (by decide +kernel), s_mo_push _ _⟩, (List.forall_mem_cons.mpr ⟨s_r1 mk_201 dX12_strew_42, (List.forall_mem_cons.mpr ⟨⟨s_ldAn dX12_strew_43 rfl, s_mo_ldA _ _⟩, (List.forall_mem_cons.mpr ⟨⟨s_sV mk_201 mk_199 ok_199 (by decide +kernel) dX12_strew_44 w_1491 w_1493 wp_54 (Or.inr ⟨8, _, _, rfl, rfl⟩), s_h0 mk_201⟩, (List.forall_mem_cons.mpr ⟨⟨s_ldAn dX12_strew_47 rfl, s_mo_ldA _ _⟩, (List.forall_mem_cons.mpr ⟨⟨s_ldIn dX12_strew_48 rfl, s_mo_ldI _ _⟩, (List.forall_mem_cons.mpr ⟨⟨s_iconst dX12_strew_49 (by decide +kernel), s_mo_push _ _⟩, (List.forall_mem_cons.mpr ⟨⟨s_sV mk_201 mk_158 ok_158 (by decide +kernel) dX12_strew_50 w_1469 w_1471 wp_52 (Or.inr ⟨8, _, _, rfl, rfl⟩), s_h0 mk_201⟩, (List.forall_mem_cons.mpr ⟨⟨s_stIn dX12_strew_53 rfl, s_mo_stI _ _⟩, (List.forall_mem_cons.mpr ⟨⟨s_ldAn dX12_strew_54 rfl, s_mo_ldA _ _⟩, (List.forall_mem_cons.mpr ⟨⟨s_ldIn dX12_strew_55 rfl, s_mo_ldI _ _⟩, (List.forall_mem_cons.mpr ⟨⟨s_iconst dX12_strew_56 (by decide +kernel), s_mo_push _ _⟩, (List.forall_mem_cons.mpr ⟨⟨s_ldIn dX12_strew_57 rfl, s_mo_ldI _ _⟩, (List.forall_mem_cons.mpr ⟨⟨s_sV mk_201 mk_159 ok_159 (by decide +kernel) dX12_strew_58 w_1217 w_1219 wp_24 (Or.inr ⟨8, _, _, rfl, rfl⟩), s_h0 mk_201⟩, (List.forall_mem_cons.mpr ⟨⟨s_ldIn dX12_strew_61 rfl, s_mo_ldI _ _⟩, (List.forall_mem_cons.mpr ⟨s_r1 mk_201 dX12_strew_62, (fun _ h => absurd h List.not_mem_nil)⟩)⟩)⟩)⟩)⟩)⟩)⟩)⟩)⟩)⟩)⟩)⟩)⟩)⟩)⟩)⟩)⟩)⟩)⟩)⟩)⟩)⟩)⟩)⟩)⟩)⟩)⟩)⟩)⟩)⟩)⟩)⟩)⟩)⟩)⟩)⟩)⟩)⟩)
theorem km_201 : ∀ t ∈ tm_201, s_tok 201 t := (List.forall_mem_cons.mpr ⟨s_lift mk_201 kb_201_0, (fun _ h => absurd h List.not_mem_nil)⟩)
theorem dX12_runs_0 : decode cX12_runs 0 = .ok (.aload_n 0, 1) := by decide +kernel
theorem dX12_runs_1 : decode cX12_runs 1 = .ok (.iconst 0, 1) := by decide +kernel
theorem dX12_runs_2 : decode cX12_runs 2 = .ok (.putfield 3, 3) := by decide +kernel
theorem dX12_runs_5 : decode cX12_runs 5 = .ok (.aload_n 0, 1) := by decide +kernel
theorem dX12_runs_6 : decode cX12_runs 6 = .ok (.iload_n 1, 1) := by decide +kernel
theorem dX12_runs_7 : decode cX12_runs 7 = .ok (.iconst 0, 1) := by decide +kernel
theorem dX12_runs_8 : decode cX12_runs 8 = .ok (.bipush 100, 2) := by decide +kernel
theorem dX12_runs_10 : decode cX12_runs 10 = .ok (.invokestatic 84, 3) := by decide +kernel
theorem dX12_runs_13 : decode cX12_runs 13 = .ok (.ifCond .ne 7, 3) := by decide +kernel
theorem dX12_runs_16 : decode cX12_runs 16 = .ok (.iconst 1, 1) := by decide +kernel
theorem dX12_runs_17 : decode cX12_runs 17 = .ok (.goto 4, 3) := by decide +kernel
theorem dX12_runs_20 : decode cX12_runs 20 = .ok (.iconst 0, 1) := by decide +kernel
theorem dX12_runs_21 : decode cX12_runs 21 = .ok (.iconst 1, 1) := by decide +kernel
theorem dX12_runs_22 : decode cX12_runs 22 = .ok (.invokevirtual 234, 3) := by decide +kernel
theorem dX12_runs_25 : decode cX12_runs 25 = .ok (.ifCond .eq 5, 3) := by decide +kernel
theorem dX12_runs_28 : decode cX12_runs 28 = .ok (.iconst 0, 1) := by decide +kernel
theorem dX12_runs_29 : decode cX12_runs 29 = .ok (.ireturn, 1) := by decide +kernel
theorem dX12_runs_30 : decode cX12_runs 30 = .ok (.aload_n 0, 1) := by decide +kernel
theorem dX12_runs_31 : decode cX12_runs 31 = .ok (.getfield 13, 3) := by decide +kernel
theorem dX12_runs_34 : decode cX12_runs 34 = .ok (.bipush 6, 2) := by decide +kernel
theorem dX12_runs_36 : decode cX12_runs 36 = .ok (.iaload, 1) := by decide +kernel
theorem dX12_runs_37 : decode cX12_runs 37 = .ok (.istore_n 2, 1) := by decide +kernel
theorem dX12_runs_38 : decode cX12_runs 38 = .ok (.aload_n 0, 1) := by decide +kernel
theorem dX12_runs_39 : decode cX12_runs 39 = .ok (.getfield 13, 3) := by decide +kernel
theorem dX12_runs_42 : decode cX12_runs 42 = .ok (.bipush 6, 2) := by decide +kernel
theorem dX12_runs_44 : decode cX12_runs 44 = .ok (.iload_n 1, 1) := by decide +kernel
theorem dX12_runs_45 : decode cX12_runs 45 = .ok (.iastore, 1) := by decide +kernel
theorem dX12_runs_46 : decode cX12_runs 46 = .ok (.iload_n 2, 1) := by decide +kernel
theorem dX12_runs_47 : decode cX12_runs 47 = .ok (.ireturn, 1) := by decide +kernel
set_option maxRecDepth 20000 in
theorem kb_202_0 : ∀ q ∈ tb_202_0, s_atx 202 yX12_runs cX12_runs q.1 q.2 := (List.forall_mem_cons.mpr ⟨⟨s_ldAn dX12_runs_0 rfl, s_mo_ldA _ _⟩, (List.forall_mem_cons.mpr ⟨⟨s_iconst dX12_runs_1 (by decide +kernel), s_mo_push _ _⟩, (List.forall_mem_cons.mpr ⟨⟨s_putI (ci := 8) (k := 0) rfl (by decide) inX12 tyX12_ok nmX12 rfl rfl w_1221 dX12_runs_2, s_mo_putI _ _ _⟩, (List.forall_mem_cons.mpr ⟨⟨s_ldAn dX12_runs_5 rfl, s_mo_ldA _ _⟩, (List.forall_mem_cons.mpr ⟨⟨s_ldIn dX12_runs_6 rfl, s_mo_ldI _ _⟩, (List.forall_mem_cons.mpr ⟨⟨s_iconst dX12_runs_7 (by decide +kernel), s_mo_push _ _⟩, (List.forall_mem_cons.mpr ⟨⟨s_bipush dX12_runs_8 (by decide +kernel), s_mo_push _ _⟩, (List.forall_mem_cons.mpr ⟨⟨s_sS mk_202 mk_150 ok_150 (by decide +kernel) dX12_runs_10 w_1458 w_1459, s_h0 mk_202⟩, (List.forall_mem_cons.mpr ⟨⟨s_ifne dX12_runs_13 (by decide), s_mo_ifne _ _⟩, (List.forall_mem_cons.mpr ⟨⟨s_iconst dX12_runs_16 (by decide +kernel), s_mo_push _ _⟩, (List.forall_mem_cons.mpr ⟨⟨s_goto dX12_runs_17 (by decide), s_mo_goto _⟩, (List.forall_mem_cons.mpr ⟨⟨s_iconst dX12_runs_20 (by decide +kernel), s_mo_push _ _⟩, (List.forall_mem_cons.mpr ⟨⟨s_iconst dX12_runs_21 (by decide +kernel), s_mo_push _ _⟩, (List.forall_mem_cons.mpr ⟨⟨s_sV mk_202 mk_149 ok_149 (by decide +kernel) dX12_runs_22 w_1438 w_1440 wp_47 (Or.inr ⟨8, _, _, rfl, rfl⟩), s_h0 mk_202⟩, (List.forall_mem_cons.mpr ⟨⟨s_ifeq dX12_runs_25 (by decide), s_mo_ifeq _ _⟩, (List.forall_mem_cons.mpr ⟨⟨s_iconst dX12_runs_28 (by decide +kernel), s_mo_push _ _⟩, (List.forall_mem_cons.mpr ⟨s_r1 mk_202 dX12_runs_29, (List.forall_mem_cons.mpr ⟨⟨s_ldAn dX12_runs_30 rfl, s_mo_ldA _ _⟩, (List.forall_mem_cons.mpr ⟨⟨s_getf (ci := 8) (k := 1) rfl (by decide) inX12 w_1222 dX12_runs_31, s_mo_getf _ _ _⟩, (List.forall_mem_cons.mpr ⟨⟨s_bipush dX12_runs_34 (by decide +kernel), s_mo_push _ _⟩, (List.forall_mem_cons.mpr ⟨⟨s_iald dX12_runs_36, s_mo_iald _⟩, (List.forall_mem_cons.mpr ⟨⟨s_stIn dX12_runs_37 rfl, s_mo_stI _ _⟩, (List.forall_mem_cons.mpr ⟨⟨s_ldAn dX12_runs_38 rfl, s_mo_ldA _ _⟩, (List.forall_mem_cons.mpr ⟨⟨s_getf (ci := 8) (k := 1) rfl (by decide) inX12 w_1222 dX12_runs_39, s_mo_getf _ _ _⟩, (List.forall_mem_cons.mpr ⟨⟨s_bipush dX12_runs_42 (by decide +kernel), s_mo_push _ _⟩, (List.forall_mem_cons.mpr ⟨⟨s_ldIn dX12_runs_44 rfl, s_mo_ldI _ _⟩, (List.forall_mem_cons.mpr ⟨⟨s_iast dX12_runs_45, s_mo_iast _⟩, (List.forall_mem_cons.mpr ⟨⟨s_ldIn dX12_runs_46 rfl, s_mo_ldI _ _⟩, (List.forall_mem_cons.mpr ⟨s_r1 mk_202 dX12_runs_47, (fun _ h => absurd h List.not_mem_nil)⟩)⟩)⟩)⟩)⟩)⟩)⟩)⟩)⟩)⟩)⟩)⟩)⟩)⟩)⟩)⟩)⟩)⟩)⟩)⟩)⟩)⟩)⟩)⟩)⟩)⟩)⟩)⟩)⟩)
theorem km_202 : ∀ t ∈ tm_202, s_tok 202 t := (List.forall_mem_cons.mpr ⟨s_lift mk_202 kb_202_0, (fun _ h => absurd h List.not_mem_nil)⟩)
theorem dX12_load_0 : decode cX12_load 0 = .ok (.aload_n 0, 1) := by decide +kernel
theorem dX12_load_1 : decode cX12_load 1 = .ok (.iconst 0, 1) := by decide +kernel
theorem dX12_load_2 : decode cX12_load 2 = .ok (.putfield 3, 3) := by decide +kernel
theorem dX12_load_5 : decode cX12_load 5 = .ok (.aload_n 0, 1) := by decide +kernel
theorem dX12_load_6 : decode cX12_load 6 = .ok (.aload_n 0, 1) := by decide +kernel
theorem dX12_load_7 : decode cX12_load 7 = .ok (.iload_n 1, 1) := by decide +kernel
theorem dX12_load_8 : decode cX12_load 8 = .ok (.invokevirtual 264, 3) := by decide +kernel
theorem dX12_load_11 : decode cX12_load 11 = .ok (.ifCond .ne 10, 3) := by decide +kernel
theorem dX12_load_14 : decode cX12_load 14 = .ok (.iload_n 2, 1) := by decide +kernel
theorem dX12_load_15 : decode cX12_load 15 = .ok (.invokestatic 270, 3) := by decide +kernel
theorem dX12_load_18 : decode cX12_load 18 = .ok (.ifCond .eq 7, 3) := by decide +kernel
theorem dX12_load_21 : decode cX12_load 21 = .ok (.iconst 1, 1) := by decide +kernel
theorem dX12_load_22 : decode cX12_load 22 = .ok (.goto 4, 3) := by decide +kernel
theorem dX12_load_25 : decode cX12_load 25 = .ok (.iconst 0, 1) := by decide +kernel
theorem dX12_load_26 : decode cX12_load 26 = .ok (.iconst 1, 1) := by decide +kernel
theorem dX12_load_27 : decode cX12_load 27 = .ok (.invokevirtual 234, 3) := by decide +kernel
theorem dX12_load_30 : decode cX12_load 30 = .ok (.ifCond .eq 7, 3) := by decide +kernel
theorem dX12_load_33 : decode cX12_load 33 = .ok (.iconst 0, 1) := by decide +kernel
theorem dX12_load_34 : decode cX12_load 34 = .ok (.goto 9, 3) := by decide +kernel
theorem dX12_load_37 : decode cX12_load 37 = .ok (.aload_n 0, 1) := by decide +kernel
theorem dX12_load_38 : decode cX12_load 38 = .ok (.iload_n 1, 1) := by decide +kernel
theorem dX12_load_39 : decode cX12_load 39 = .ok (.iload_n 2, 1) := by decide +kernel
theorem dX12_load_40 : decode cX12_load 40 = .ok (.invokevirtual 258, 3) := by decide +kernel
theorem dX12_load_43 : decode cX12_load 43 = .ok (.ireturn, 1) := by decide +kernel
set_option maxRecDepth 20000 in
theorem kb_203_0 : ∀ q ∈ tb_203_0, s_atx 203 yX12_load cX12_load q.1 q.2 := (List.forall_mem_cons.mpr ⟨⟨s_ldAn dX12_load_0 rfl, s_mo_ldA _ _⟩, (List.forall_mem_cons.mpr ⟨⟨s_iconst dX12_load_1 (by decide +kernel), s_mo_push _ _⟩, (List.forall_mem_cons.mpr ⟨⟨s_putI (ci := 8) (k := 0) rfl (by decide) inX12 tyX12_ok nmX12 rfl rfl w_1221 dX12_load_2, s_mo_putI _ _ _⟩, (List.forall_mem_cons.mpr ⟨⟨s_ldAn dX12_load_5 rfl, s_mo_ldA _ _⟩, (List.forall_mem_cons.mpr ⟨⟨s_ldAn dX12_load_6 rfl, s_mo_ldA _ _⟩, (List.forall_mem_cons.mpr ⟨⟨s_ldIn dX12_load_7 rfl, s_mo_ldI _ _⟩, (List.forall_mem_cons.mpr ⟨⟨s_sV mk_203 mk_160 ok_160 (by decide +kernel) dX12_load_8 w_1450 w_1452 wp_48 (Or.inr ⟨8, _, _, rfl, rfl⟩), s_h0 mk_203⟩, (List.forall_mem_cons.mpr ⟨⟨s_ifne dX12_load_11 (by decide), s_mo_ifne _ _⟩, (List.forall_mem_cons.mpr ⟨⟨s_ldIn dX12_load_14 rfl, s_mo_ldI _ _⟩, (List.forall_mem_cons.mpr ⟨⟨s_sS mk_203 mk_161 ok_161 (by decide +kernel) dX12_load_15 w_1503 w_1504, s_h0 mk_203⟩, (List.forall_mem_cons.mpr ⟨⟨s_ifeq dX12_load_18 (by decide), s_mo_ifeq _ _⟩, (List.forall_mem_cons.mpr ⟨⟨s_iconst dX12_load_21 (by decide +kernel), s_mo_push _ _⟩, (List.forall_mem_cons.mpr ⟨⟨s_goto dX12_load_22 (by decide), s_mo_goto _⟩, (List.forall_mem_cons.mpr ⟨⟨s_iconst dX12_load_25 (by decide +kernel), s_mo_push _ _⟩, (List.forall_mem_cons.mpr ⟨⟨s_iconst dX12_load_26 (by decide +kernel), s_mo_push _ _⟩, (List.forall_mem_cons.mpr ⟨⟨s_sV mk_203 mk_149 ok_149 (by decide +kernel) dX12_load_27 w_1438 w_1440 wp_47 (Or.inr ⟨8, _, _, rfl, rfl⟩), s_h0 mk_203⟩, (List.forall_mem_cons.mpr ⟨⟨s_ifeq dX12_load_30 (by decide), s_mo_ifeq _ _⟩, (List.forall_mem_cons.mpr ⟨⟨s_iconst dX12_load_33 (by decide +kernel), s_mo_push _ _⟩, (List.forall_mem_cons.mpr ⟨⟨s_goto dX12_load_34 (by decide), s_mo_goto _⟩, (List.forall_mem_cons.mpr ⟨⟨s_ldAn dX12_load_37 rfl, s_mo_ldA _ _⟩, (List.forall_mem_cons.mpr ⟨⟨s_ldIn dX12_load_38 rfl, s_mo_ldI _ _⟩, (List.forall_mem_cons.mpr ⟨⟨s_ldIn dX12_load_39 rfl, s_mo_ldI _ _⟩, (List.forall_mem_cons.mpr ⟨⟨s_sV mk_203 mk_195 ok_195 (by decide +kernel) dX12_load_40 w_1506 w_1508 wp_55 (Or.inr ⟨8, _, _, rfl, rfl⟩), s_h0 mk_203⟩, (List.forall_mem_cons.mpr ⟨s_r1 mk_203 dX12_load_43, (fun _ h => absurd h List.not_mem_nil)⟩)⟩)⟩)⟩)⟩)⟩)⟩)⟩)⟩)⟩)⟩)⟩)⟩)⟩)⟩)⟩)⟩)⟩)⟩)⟩)⟩)⟩)⟩)⟩)
theorem km_203 : ∀ t ∈ tm_203, s_tok 203 t := (List.forall_mem_cons.mpr ⟨s_lift mk_203 kb_203_0, (fun _ h => absurd h List.not_mem_nil)⟩)
theorem dX12_holds_0 : decode cX12_holds 0 = .ok (.aload_n 0, 1) := by decide +kernel
theorem dX12_holds_1 : decode cX12_holds 1 = .ok (.iconst 0, 1) := by decide +kernel
theorem dX12_holds_2 : decode cX12_holds 2 = .ok (.putfield 3, 3) := by decide +kernel
theorem dX12_holds_5 : decode cX12_holds 5 = .ok (.aload_n 0, 1) := by decide +kernel
theorem dX12_holds_6 : decode cX12_holds 6 = .ok (.aload_n 0, 1) := by decide +kernel
theorem dX12_holds_7 : decode cX12_holds 7 = .ok (.iload_n 1, 1) := by decide +kernel
theorem dX12_holds_8 : decode cX12_holds 8 = .ok (.invokevirtual 264, 3) := by decide +kernel
theorem dX12_holds_11 : decode cX12_holds 11 = .ok (.ifCond .ne 10, 3) := by decide +kernel
theorem dX12_holds_14 : decode cX12_holds 14 = .ok (.iload_n 2, 1) := by decide +kernel
theorem dX12_holds_15 : decode cX12_holds 15 = .ok (.invokestatic 270, 3) := by decide +kernel
theorem dX12_holds_18 : decode cX12_holds 18 = .ok (.ifCond .eq 7, 3) := by decide +kernel
theorem dX12_holds_21 : decode cX12_holds 21 = .ok (.iconst 1, 1) := by decide +kernel
theorem dX12_holds_22 : decode cX12_holds 22 = .ok (.goto 4, 3) := by decide +kernel
theorem dX12_holds_25 : decode cX12_holds 25 = .ok (.iconst 0, 1) := by decide +kernel
theorem dX12_holds_26 : decode cX12_holds 26 = .ok (.iconst 1, 1) := by decide +kernel
theorem dX12_holds_27 : decode cX12_holds 27 = .ok (.invokevirtual 234, 3) := by decide +kernel
theorem dX12_holds_30 : decode cX12_holds 30 = .ok (.ifCond .ne 41, 3) := by decide +kernel
theorem dX12_holds_33 : decode cX12_holds 33 = .ok (.aload_n 0, 1) := by decide +kernel
theorem dX12_holds_34 : decode cX12_holds 34 = .ok (.iload_n 3, 1) := by decide +kernel
theorem dX12_holds_35 : decode cX12_holds 35 = .ok (.iconst 0, 1) := by decide +kernel
theorem dX12_holds_36 : decode cX12_holds 36 = .ok (.sipush 999, 3) := by decide +kernel
theorem dX12_holds_39 : decode cX12_holds 39 = .ok (.invokestatic 84, 3) := by decide +kernel
theorem dX12_holds_42 : decode cX12_holds 42 = .ok (.ifCond .ne 7, 3) := by decide +kernel
theorem dX12_holds_45 : decode cX12_holds 45 = .ok (.iconst 1, 1) := by decide +kernel
theorem dX12_holds_46 : decode cX12_holds 46 = .ok (.goto 4, 3) := by decide +kernel
theorem dX12_holds_49 : decode cX12_holds 49 = .ok (.iconst 0, 1) := by decide +kernel
theorem dX12_holds_50 : decode cX12_holds 50 = .ok (.iconst 2, 1) := by decide +kernel
theorem dX12_holds_51 : decode cX12_holds 51 = .ok (.invokevirtual 234, 3) := by decide +kernel
theorem dX12_holds_54 : decode cX12_holds 54 = .ok (.ifCond .ne 17, 3) := by decide +kernel
theorem dX12_holds_57 : decode cX12_holds 57 = .ok (.aload_n 0, 1) := by decide +kernel
theorem dX12_holds_58 : decode cX12_holds 58 = .ok (.iload_n 1, 1) := by decide +kernel
theorem dX12_holds_59 : decode cX12_holds 59 = .ok (.iload_n 2, 1) := by decide +kernel
theorem dX12_holds_60 : decode cX12_holds 60 = .ok (.iload_n 3, 1) := by decide +kernel
theorem dX12_holds_61 : decode cX12_holds 61 = .ok (.invokevirtual 273, 3) := by decide +kernel
theorem dX12_holds_64 : decode cX12_holds 64 = .ok (.ifCond .eq 7, 3) := by decide +kernel
theorem dX12_holds_67 : decode cX12_holds 67 = .ok (.iconst 1, 1) := by decide +kernel
theorem dX12_holds_68 : decode cX12_holds 68 = .ok (.goto 4, 3) := by decide +kernel
theorem dX12_holds_71 : decode cX12_holds 71 = .ok (.iconst 0, 1) := by decide +kernel
theorem dX12_holds_72 : decode cX12_holds 72 = .ok (.ireturn, 1) := by decide +kernel
set_option maxRecDepth 20000 in
theorem kb_204_0 : ∀ q ∈ tb_204_0, s_atx 204 yX12_holds cX12_holds q.1 q.2 := (List.forall_mem_cons.mpr ⟨⟨s_ldAn dX12_holds_0 rfl, s_mo_ldA _ _⟩, (List.forall_mem_cons.mpr ⟨⟨s_iconst dX12_holds_1 (by decide +kernel), s_mo_push _ _⟩, (List.forall_mem_cons.mpr ⟨⟨s_putI (ci := 8) (k := 0) rfl (by decide) inX12 tyX12_ok nmX12 rfl rfl w_1221 dX12_holds_2, s_mo_putI _ _ _⟩, (List.forall_mem_cons.mpr ⟨⟨s_ldAn dX12_holds_5 rfl, s_mo_ldA _ _⟩, (List.forall_mem_cons.mpr ⟨⟨s_ldAn dX12_holds_6 rfl, s_mo_ldA _ _⟩, (List.forall_mem_cons.mpr ⟨⟨s_ldIn dX12_holds_7 rfl, s_mo_ldI _ _⟩, (List.forall_mem_cons.mpr ⟨⟨s_sV mk_204 mk_160 ok_160 (by decide +kernel) dX12_holds_8 w_1450 w_1452 wp_48 (Or.inr ⟨8, _, _, rfl, rfl⟩), s_h0 mk_204⟩, (List.forall_mem_cons.mpr ⟨⟨s_ifne dX12_holds_11 (by decide), s_mo_ifne _ _⟩, (List.forall_mem_cons.mpr ⟨⟨s_ldIn dX12_holds_14 rfl, s_mo_ldI _ _⟩, (List.forall_mem_cons.mpr ⟨⟨s_sS mk_204 mk_161 ok_161 (by decide +kernel) dX12_holds_15 w_1503 w_1504, s_h0 mk_204⟩, (List.forall_mem_cons.mpr ⟨⟨s_ifeq dX12_holds_18 (by decide), s_mo_ifeq _ _⟩, (List.forall_mem_cons.mpr ⟨⟨s_iconst dX12_holds_21 (by decide +kernel), s_mo_push _ _⟩, (List.forall_mem_cons.mpr ⟨⟨s_goto dX12_holds_22 (by decide), s_mo_goto _⟩, (List.forall_mem_cons.mpr ⟨⟨s_iconst dX12_holds_25 (by decide +kernel), s_mo_push _ _⟩, (List.forall_mem_cons.mpr ⟨⟨s_iconst dX12_holds_26 (by decide +kernel), s_mo_push _ _⟩, (List.forall_mem_cons.mpr ⟨⟨s_sV mk_204 mk_149 ok_149 (by decide +kernel) dX12_holds_27 w_1438 w_1440 wp_47 (Or.inr ⟨8, _, _, rfl, rfl⟩), s_h0 mk_204⟩, (List.forall_mem_cons.mpr ⟨⟨s_ifne dX12_holds_30 (by decide), s_mo_ifne _ _⟩, (List.forall_mem_cons.mpr ⟨⟨s_ldAn dX12_holds_33 rfl, s_mo_ldA _ _⟩, (List.forall_mem_cons.mpr ⟨⟨s_ldIn dX12_holds_34 rfl, s_mo_ldI _ _⟩, (List.forall_mem_cons.mpr ⟨⟨s_iconst dX12_holds_35 (by decide +kernel), s_mo_push _ _⟩, (List.forall_mem_cons.mpr ⟨⟨s_sipush dX12_holds_36 (by decide +kernel), s_mo_push _ _⟩, (List.forall_mem_cons.mpr ⟨⟨s_sS mk_204 mk_150 ok_150 (by decide +kernel) dX12_holds_39 w_1458 w_1459, s_h0 mk_204⟩, (List.forall_mem_cons.mpr ⟨⟨s_ifne dX12_holds_42 (by decide), s_mo_ifne _ _⟩, (List.forall_mem_cons.mpr ⟨⟨s_iconst dX12_holds_45 (by decide +kernel), s_mo_push _ _⟩, (List.forall_mem_cons.mpr ⟨⟨s_goto dX12_holds_46 (by decide), s_mo_goto _⟩, (List.forall_mem_cons.mpr ⟨⟨s_iconst dX12_holds_49 (by decide +kernel), s_mo_push _ _⟩, (List.forall_mem_cons.mpr ⟨⟨s_iconst dX12_holds_50 (by decide +kernel), s_mo_push _ _⟩, (List.forall_mem_cons.mpr ⟨⟨s_sV mk_204 mk_149 ok_149 (by decide +kernel) dX12_holds_51 w_1438 w_1440 wp_47 (Or.inr ⟨8, _, _, rfl, rfl⟩), s_h0 mk_204⟩, (List.forall_mem_cons.mpr ⟨⟨s_ifne dX12_holds_54 (by decide), s_mo_ifne _ _⟩, (List.forall_mem_cons.mpr ⟨⟨s_ldAn dX12_holds_57 rfl, s_mo_ldA _ _⟩, (List.forall_mem_cons.mpr ⟨⟨s_ldIn dX12_holds_58 rfl, s_mo_ldI _ _⟩, (List.forall_mem_cons.mpr ⟨⟨s_ldIn dX12_holds_59 rfl, s_mo_ldI _ _⟩, (List.forall_mem_cons.mpr ⟨⟨s_ldIn dX12_holds_60 rfl, s_mo_ldI _ _⟩, (List.forall_mem_cons.mpr ⟨⟨s_sV mk_204 mk_196 ok_196 (by decide +kernel) dX12_holds_61 w_1517 w_1519 wp_56 (Or.inr ⟨8, _, _, rfl, rfl⟩), s_h0 mk_204⟩, (fun _ h => absurd h List.not_mem_nil)⟩)⟩)⟩)⟩)⟩)⟩)⟩)⟩)⟩)⟩)⟩)⟩)⟩)⟩)⟩)⟩)⟩)⟩)⟩)⟩)⟩)⟩)⟩)⟩)⟩)⟩)⟩)⟩)⟩)⟩)⟩)⟩)⟩)⟩)
set_option maxRecDepth 20000 in
theorem kb_204_1 : ∀ q ∈ tb_204_1, s_atx 204 yX12_holds cX12_holds q.1 q.2 := (List.forall_mem_cons.mpr ⟨⟨s_ifeq dX12_holds_64 (by decide), s_mo_ifeq _ _⟩, (List.forall_mem_cons.mpr ⟨⟨s_iconst dX12_holds_67 (by decide +kernel), s_mo_push _ _⟩, (List.forall_mem_cons.mpr ⟨⟨s_goto dX12_holds_68 (by decide), s_mo_goto _⟩, (List.forall_mem_cons.mpr ⟨⟨s_iconst dX12_holds_71 (by decide +kernel), s_mo_push _ _⟩, (List.forall_mem_cons.mpr ⟨s_r2 mk_204 dX12_holds_72, (fun _ h => absurd h List.not_mem_nil)⟩)⟩)⟩)⟩)⟩)
theorem km_204 : ∀ t ∈ tm_204, s_tok 204 t := (List.forall_mem_cons.mpr ⟨s_lift mk_204 kb_204_0, (List.forall_mem_cons.mpr ⟨s_lift mk_204 kb_204_1, (fun _ h => absurd h List.not_mem_nil)⟩)⟩)
theorem dX12_breaks_0 : decode cX12_breaks 0 = .ok (.aload_n 0, 1) := by decide +kernel
theorem dX12_breaks_1 : decode cX12_breaks 1 = .ok (.iconst 0, 1) := by decide +kernel
theorem dX12_breaks_2 : decode cX12_breaks 2 = .ok (.putfield 3, 3) := by decide +kernel
theorem dX12_breaks_5 : decode cX12_breaks 5 = .ok (.aload_n 0, 1) := by decide +kernel
theorem dX12_breaks_6 : decode cX12_breaks 6 = .ok (.iload_n 1, 1) := by decide +kernel
theorem dX12_breaks_7 : decode cX12_breaks 7 = .ok (.invokestatic 270, 3) := by decide +kernel
theorem dX12_breaks_10 : decode cX12_breaks 10 = .ok (.iconst 1, 1) := by decide +kernel
theorem dX12_breaks_11 : decode cX12_breaks 11 = .ok (.invokevirtual 234, 3) := by decide +kernel
theorem dX12_breaks_14 : decode cX12_breaks 14 = .ok (.ifCond .eq 5, 3) := by decide +kernel
theorem dX12_breaks_17 : decode cX12_breaks 17 = .ok (.iconst 0, 1) := by decide +kernel
theorem dX12_breaks_18 : decode cX12_breaks 18 = .ok (.ireturn, 1) := by decide +kernel
theorem dX12_breaks_19 : decode cX12_breaks 19 = .ok (.iconst 0, 1) := by decide +kernel
theorem dX12_breaks_20 : decode cX12_breaks 20 = .ok (.istore_n 2, 1) := by decide +kernel
theorem dX12_breaks_21 : decode cX12_breaks 21 = .ok (.iconst 0, 1) := by decide +kernel
theorem dX12_breaks_22 : decode cX12_breaks 22 = .ok (.istore_n 3, 1) := by decide +kernel
theorem dX12_breaks_23 : decode cX12_breaks 23 = .ok (.iload_n 3, 1) := by decide +kernel
theorem dX12_breaks_24 : decode cX12_breaks 24 = .ok (.aload_n 0, 1) := by decide +kernel
theorem dX12_breaks_25 : decode cX12_breaks 25 = .ok (.invokevirtual 80, 3) := by decide +kernel
theorem dX12_breaks_28 : decode cX12_breaks 28 = .ok (.if_icmp .ge 29, 3) := by decide +kernel
theorem dX12_breaks_31 : decode cX12_breaks 31 = .ok (.iload_n 2, 1) := by decide +kernel
theorem dX12_breaks_32 : decode cX12_breaks 32 = .ok (.aload_n 0, 1) := by decide +kernel
theorem dX12_breaks_33 : decode cX12_breaks 33 = .ok (.iload_n 3, 1) := by decide +kernel
theorem dX12_breaks_34 : decode cX12_breaks 34 = .ok (.iload_n 1, 1) := by decide +kernel
theorem dX12_breaks_35 : decode cX12_breaks 35 = .ok (.iconst 0, 1) := by decide +kernel
theorem dX12_breaks_36 : decode cX12_breaks 36 = .ok (.invokevirtual 273, 3) := by decide +kernel
theorem dX12_breaks_39 : decode cX12_breaks 39 = .ok (.ifCond .eq 7, 3) := by decide +kernel
theorem dX12_breaks_42 : decode cX12_breaks 42 = .ok (.iconst 0, 1) := by decide +kernel
theorem dX12_breaks_43 : decode cX12_breaks 43 = .ok (.goto 6, 3) := by decide +kernel
theorem dX12_breaks_46 : decode cX12_breaks 46 = .ok (.iconst 1, 1) := by decide +kernel
theorem dX12_breaks_47 : decode cX12_breaks 47 = .ok (.iload_n 3, 1) := by decide +kernel
theorem dX12_breaks_48 : decode cX12_breaks 48 = .ok (.ishl, 1) := by decide +kernel
theorem dX12_breaks_49 : decode cX12_breaks 49 = .ok (.ior, 1) := by decide +kernel
theorem dX12_breaks_50 : decode cX12_breaks 50 = .ok (.istore_n 2, 1) := by decide +kernel
theorem dX12_breaks_51 : decode cX12_breaks 51 = .ok (.iinc 3 1, 3) := by decide +kernel
theorem dX12_breaks_54 : decode cX12_breaks 54 = .ok (.goto (-31), 3) := by decide +kernel
theorem dX12_breaks_57 : decode cX12_breaks 57 = .ok (.iload_n 2, 1) := by decide +kernel
theorem dX12_breaks_58 : decode cX12_breaks 58 = .ok (.ireturn, 1) := by decide +kernel
set_option maxRecDepth 20000 in
theorem kb_205_0 : ∀ q ∈ tb_205_0, s_atx 205 yX12_breaks cX12_breaks q.1 q.2 := (List.forall_mem_cons.mpr ⟨⟨s_ldAn dX12_breaks_0 rfl, s_mo_ldA _ _⟩, (List.forall_mem_cons.mpr ⟨⟨s_iconst dX12_breaks_1 (by decide +kernel), s_mo_push _ _⟩, (List.forall_mem_cons.mpr ⟨⟨s_putI (ci := 8) (k := 0) rfl (by decide) inX12 tyX12_ok nmX12 rfl rfl w_1221 dX12_breaks_2, s_mo_putI _ _ _⟩, (List.forall_mem_cons.mpr ⟨⟨s_ldAn dX12_breaks_5 rfl, s_mo_ldA _ _⟩, (List.forall_mem_cons.mpr ⟨⟨s_ldIn dX12_breaks_6 rfl, s_mo_ldI _ _⟩, (List.forall_mem_cons.mpr ⟨⟨s_sS mk_205 mk_161 ok_161 (by decide +kernel) dX12_breaks_7 w_1503 w_1504, s_h0 mk_205⟩, (List.forall_mem_cons.mpr ⟨⟨s_iconst dX12_breaks_10 (by decide +kernel), s_mo_push _ _⟩, (List.forall_mem_cons.mpr ⟨⟨s_sV mk_205 mk_149 ok_149 (by decide +kernel) dX12_breaks_11 w_1438 w_1440 wp_47 (Or.inr ⟨8, _, _, rfl, rfl⟩), s_h0 mk_205⟩, (List.forall_mem_cons.mpr ⟨⟨s_ifeq dX12_breaks_14 (by decide), s_mo_ifeq _ _⟩, (List.forall_mem_cons.mpr ⟨⟨s_iconst dX12_breaks_17 (by decide +kernel), s_mo_push _ _⟩, (List.forall_mem_cons.mpr ⟨s_r1 mk_205 dX12_breaks_18, (List.forall_mem_cons.mpr ⟨⟨s_iconst dX12_breaks_19 (by decide +kernel), s_mo_push _ _⟩, (List.forall_mem_cons.mpr ⟨⟨s_stIn dX12_breaks_20 rfl, s_mo_stI _ _⟩, (List.forall_mem_cons.mpr ⟨⟨s_iconst dX12_breaks_21 (by decide +kernel), s_mo_push _ _⟩, (List.forall_mem_cons.mpr ⟨⟨s_stIn dX12_breaks_22 rfl, s_mo_stI _ _⟩, (List.forall_mem_cons.mpr ⟨⟨s_ldIn dX12_breaks_23 rfl, s_mo_ldI _ _⟩, (List.forall_mem_cons.mpr ⟨⟨s_ldAn dX12_breaks_24 rfl, s_mo_ldA _ _⟩, (List.forall_mem_cons.mpr ⟨⟨s_sV mk_205 mk_156 ok_156 (by decide +kernel) dX12_breaks_25 w_1454 w_1456 wp_49 (Or.inr ⟨8, _, _, rfl, rfl⟩), s_h0 mk_205⟩, (List.forall_mem_cons.mpr ⟨⟨s_icge dX12_breaks_28 (by decide), s_mo_icge _ _⟩, (List.forall_mem_cons.mpr ⟨⟨s_ldIn dX12_breaks_31 rfl, s_mo_ldI _ _⟩, (List.forall_mem_cons.mpr ⟨⟨s_ldAn dX12_breaks_32 rfl, s_mo_ldA _ _⟩, (List.forall_mem_cons.mpr ⟨⟨s_ldIn dX12_breaks_33 rfl, s_mo_ldI _ _⟩, (List.forall_mem_cons.mpr ⟨⟨s_ldIn dX12_breaks_34 rfl, s_mo_ldI _ _⟩, (List.forall_mem_cons.mpr ⟨⟨s_iconst dX12_breaks_35 (by decide +kernel), s_mo_push _ _⟩, (List.forall_mem_cons.mpr ⟨⟨s_sV mk_205 mk_196 ok_196 (by decide +kernel) dX12_breaks_36 w_1517 w_1519 wp_56 (Or.inr ⟨8, _, _, rfl, rfl⟩), s_h0 mk_205⟩, (List.forall_mem_cons.mpr ⟨⟨s_ifeq dX12_breaks_39 (by decide), s_mo_ifeq _ _⟩, (List.forall_mem_cons.mpr ⟨⟨s_iconst dX12_breaks_42 (by decide +kernel), s_mo_push _ _⟩, (List.forall_mem_cons.mpr ⟨⟨s_goto dX12_breaks_43 (by decide), s_mo_goto _⟩, (List.forall_mem_cons.mpr ⟨⟨s_iconst dX12_breaks_46 (by decide +kernel), s_mo_push _ _⟩, (List.forall_mem_cons.mpr ⟨⟨s_ldIn dX12_breaks_47 rfl, s_mo_ldI _ _⟩, (List.forall_mem_cons.mpr ⟨⟨s_ishl dX12_breaks_48, s_mo_bin _ _⟩, (List.forall_mem_cons.mpr ⟨⟨s_ior dX12_breaks_49, s_mo_bin _ _⟩, (List.forall_mem_cons.mpr ⟨⟨s_stIn dX12_breaks_50 rfl, s_mo_stI _ _⟩, (List.forall_mem_cons.mpr ⟨⟨s_inc dX12_breaks_51 (by decide +kernel), s_mo_inc _ _ _⟩, (List.forall_mem_cons.mpr ⟨⟨s_goto dX12_breaks_54 (by decide), s_mo_goto _⟩, (List.forall_mem_cons.mpr ⟨⟨s_ldIn dX12_breaks_57 rfl, s_mo_ldI _ _⟩, (List.forall_mem_cons.mpr ⟨s_r1 mk_205 dX12_breaks_58, (fun _ h => absurd h List.not_mem_nil)⟩)⟩)⟩)⟩)⟩)⟩)⟩)⟩)⟩)⟩)⟩)⟩)⟩)⟩)⟩)⟩)⟩)⟩)⟩)⟩)⟩)⟩)⟩)⟩)⟩)⟩)⟩)⟩)⟩)⟩)⟩)⟩)⟩)⟩)⟩)⟩)⟩)
theorem km_205 : ∀ t ∈ tm_205, s_tok 205 t := (List.forall_mem_cons.mpr ⟨s_lift mk_205 kb_205_0, (fun _ h => absurd h List.not_mem_nil)⟩)
theorem dX12_letDown_0 : decode cX12_letDown 0 = .ok (.iconst 0, 1) := by decide +kernel
theorem dX12_letDown_1 : decode cX12_letDown 1 = .ok (.iload_n 2, 1) := by decide +kernel
theorem dX12_letDown_2 : decode cX12_letDown 2 = .ok (.invokestatic 276, 3) := by decide +kernel
theorem dX12_letDown_5 : decode cX12_letDown 5 = .ok (.bipush 100, 2) := by decide +kernel
theorem dX12_letDown_7 : decode cX12_letDown 7 = .ok (.aload_n 0, 1) := by decide +kernel
theorem dX12_letDown_8 : decode cX12_letDown 8 = .ok (.iload_n 1, 1) := by decide +kernel
theorem dX12_letDown_9 : decode cX12_letDown 9 = .ok (.iconst 2, 1) := by decide +kernel
theorem dX12_letDown_10 : decode cX12_letDown 10 = .ok (.invokevirtual 88, 3) := by decide +kernel
theorem dX12_letDown_13 : decode cX12_letDown 13 = .ok (.isub, 1) := by decide +kernel
theorem dX12_letDown_14 : decode cX12_letDown 14 = .ok (.imul, 1) := by decide +kernel
theorem dX12_letDown_15 : decode cX12_letDown 15 = .ok (.bipush 100, 2) := by decide +kernel
theorem dX12_letDown_17 : decode cX12_letDown 17 = .ok (.idiv, 1) := by decide +kernel
theorem dX12_letDown_18 : decode cX12_letDown 18 = .ok (.bipush 12, 2) := by decide +kernel
theorem dX12_letDown_20 : decode cX12_letDown 20 = .ok (.aload_n 0, 1) := by decide +kernel
theorem dX12_letDown_21 : decode cX12_letDown 21 = .ok (.iload_n 1, 1) := by decide +kernel
theorem dX12_letDown_22 : decode cX12_letDown 22 = .ok (.iconst 0, 1) := by decide +kernel
theorem dX12_letDown_23 : decode cX12_letDown 23 = .ok (.invokevirtual 88, 3) := by decide +kernel
theorem dX12_letDown_26 : decode cX12_letDown 26 = .ok (.isub, 1) := by decide +kernel
theorem dX12_letDown_27 : decode cX12_letDown 27 = .ok (.imul, 1) := by decide +kernel
theorem dX12_letDown_28 : decode cX12_letDown 28 = .ok (.bipush 12, 2) := by decide +kernel
theorem dX12_letDown_30 : decode cX12_letDown 30 = .ok (.idiv, 1) := by decide +kernel
theorem dX12_letDown_31 : decode cX12_letDown 31 = .ok (.iconst 5, 1) := by decide +kernel
theorem dX12_letDown_32 : decode cX12_letDown 32 = .ok (.aload_n 0, 1) := by decide +kernel
theorem dX12_letDown_33 : decode cX12_letDown 33 = .ok (.iload_n 1, 1) := by decide +kernel
theorem dX12_letDown_34 : decode cX12_letDown 34 = .ok (.iconst 3, 1) := by decide +kernel
theorem dX12_letDown_35 : decode cX12_letDown 35 = .ok (.invokevirtual 88, 3) := by decide +kernel
theorem dX12_letDown_38 : decode cX12_letDown 38 = .ok (.imul, 1) := by decide +kernel
theorem dX12_letDown_39 : decode cX12_letDown 39 = .ok (.isub, 1) := by decide +kernel
theorem dX12_letDown_40 : decode cX12_letDown 40 = .ok (.invokestatic 249, 3) := by decide +kernel
theorem dX12_letDown_43 : decode cX12_letDown 43 = .ok (.ireturn, 1) := by decide +kernel
set_option maxRecDepth 20000 in
theorem kb_206_0 : ∀ q ∈ tb_206_0, s_atx 206 yX12_letDown cX12_letDown q.1 q.2 := (List.forall_mem_cons.mpr ⟨⟨s_iconst dX12_letDown_0 (by decide +kernel), s_mo_push _ _⟩, (List.forall_mem_cons.mpr ⟨⟨s_ldIn dX12_letDown_1 rfl, s_mo_ldI _ _⟩, (List.forall_mem_cons.mpr ⟨⟨s_sS mk_206 mk_191 ok_191 (by decide +kernel) dX12_letDown_2 w_1533 w_1534, s_h0 mk_206⟩, (List.forall_mem_cons.mpr ⟨⟨s_bipush dX12_letDown_5 (by decide +kernel), s_mo_push _ _⟩, (List.forall_mem_cons.mpr ⟨⟨s_ldAn dX12_letDown_7 rfl, s_mo_ldA _ _⟩, (List.forall_mem_cons.mpr ⟨⟨s_ldIn dX12_letDown_8 rfl, s_mo_ldI _ _⟩, (List.forall_mem_cons.mpr ⟨⟨s_iconst dX12_letDown_9 (by decide +kernel), s_mo_push _ _⟩, (List.forall_mem_cons.mpr ⟨⟨s_sV mk_206 mk_158 ok_158 (by decide +kernel) dX12_letDown_10 w_1469 w_1471 wp_52 (Or.inr ⟨8, _, _, rfl, rfl⟩), s_h0 mk_206⟩, (List.forall_mem_cons.mpr ⟨⟨s_isub dX12_letDown_13, s_mo_bin _ _⟩, (List.forall_mem_cons.mpr ⟨⟨s_imul dX12_letDown_14, s_mo_bin _ _⟩, (List.forall_mem_cons.mpr ⟨⟨s_bipush dX12_letDown_15 (by decide +kernel), s_mo_push _ _⟩, (List.forall_mem_cons.mpr ⟨⟨s_idiv dX12_letDown_17, s_mo_div _⟩, (List.forall_mem_cons.mpr ⟨⟨s_bipush dX12_letDown_18 (by decide +kernel), s_mo_push _ _⟩, (List.forall_mem_cons.mpr ⟨⟨s_ldAn dX12_letDown_20 rfl, s_mo_ldA _ _⟩, (List.forall_mem_cons.mpr ⟨⟨s_ldIn dX12_letDown_21 rfl, s_mo_ldI _ _⟩, (List.forall_mem_cons.mpr ⟨⟨s_iconst dX12_letDown_22 (by decide +kernel), s_mo_push _ _⟩, (List.forall_mem_cons.mpr ⟨⟨s_sV mk_206 mk_158 ok_158 (by decide +kernel) dX12_letDown_23 w_1469 w_1471 wp_52 (Or.inr ⟨8, _, _, rfl, rfl⟩), s_h0 mk_206⟩, (List.forall_mem_cons.mpr ⟨⟨s_isub dX12_letDown_26, s_mo_bin _ _⟩, (List.forall_mem_cons.mpr ⟨⟨s_imul dX12_letDown_27, s_mo_bin _ _⟩, (List.forall_mem_cons.mpr ⟨⟨s_bipush dX12_letDown_28 (by decide +kernel), s_mo_push _ _⟩, (List.forall_mem_cons.mpr ⟨⟨s_idiv dX12_letDown_30, s_mo_div _⟩, (List.forall_mem_cons.mpr ⟨⟨s_iconst dX12_letDown_31 (by decide +kernel), s_mo_push _ _⟩, (List.forall_mem_cons.mpr ⟨⟨s_ldAn dX12_letDown_32 rfl, s_mo_ldA _ _⟩, (List.forall_mem_cons.mpr ⟨⟨s_ldIn dX12_letDown_33 rfl, s_mo_ldI _ _⟩, (List.forall_mem_cons.mpr ⟨⟨s_iconst dX12_letDown_34 (by decide +kernel), s_mo_push _ _⟩, (List.forall_mem_cons.mpr ⟨⟨s_sV mk_206 mk_158 ok_158 (by decide +kernel) dX12_letDown_35 w_1469 w_1471 wp_52 (Or.inr ⟨8, _, _, rfl, rfl⟩), s_h0 mk_206⟩, (List.forall_mem_cons.mpr ⟨⟨s_imul dX12_letDown_38, s_mo_bin _ _⟩, (List.forall_mem_cons.mpr ⟨⟨s_isub dX12_letDown_39, s_mo_bin _ _⟩, (List.forall_mem_cons.mpr ⟨⟨s_mx w_1474 ws_mx w_mi wc_mx dX12_letDown_40, s_mo_mx _⟩, (List.forall_mem_cons.mpr ⟨s_r1 mk_206 dX12_letDown_43, (fun _ h => absurd h List.not_mem_nil)⟩)⟩)⟩)⟩)⟩)⟩)⟩)⟩)⟩)⟩)⟩)⟩)⟩)⟩)⟩)⟩)⟩)⟩)⟩)⟩)⟩)⟩)⟩)⟩)⟩)⟩)⟩)⟩)⟩)⟩)
theorem km_206 : ∀ t ∈ tm_206, s_tok 206 t := (List.forall_mem_cons.mpr ⟨s_lift mk_206 kb_206_0, (fun _ h => absurd h List.not_mem_nil)⟩)
theorem dX12_lightAt_0 : decode cX12_lightAt 0 = .ok (.aload_n 0, 1) := by decide +kernel
theorem dX12_lightAt_1 : decode cX12_lightAt 1 = .ok (.iload_n 1, 1) := by decide +kernel
theorem dX12_lightAt_2 : decode cX12_lightAt 2 = .ok (.iload_n 2, 1) := by decide +kernel
theorem dX12_lightAt_3 : decode cX12_lightAt 3 = .ok (.invokevirtual 279, 3) := by decide +kernel
theorem dX12_lightAt_6 : decode cX12_lightAt 6 = .ok (.aload_n 0, 1) := by decide +kernel
theorem dX12_lightAt_7 : decode cX12_lightAt 7 = .ok (.iload_n 1, 1) := by decide +kernel
theorem dX12_lightAt_8 : decode cX12_lightAt 8 = .ok (.iconst 5, 1) := by decide +kernel
theorem dX12_lightAt_9 : decode cX12_lightAt 9 = .ok (.invokevirtual 88, 3) := by decide +kernel
theorem dX12_lightAt_12 : decode cX12_lightAt 12 = .ok (.iadd, 1) := by decide +kernel
theorem dX12_lightAt_13 : decode cX12_lightAt 13 = .ok (.ireturn, 1) := by decide +kernel
set_option maxRecDepth 20000 in
theorem kb_207_0 : ∀ q ∈ tb_207_0, s_atx 207 yX12_lightAt cX12_lightAt q.1 q.2 := (List.forall_mem_cons.mpr ⟨⟨s_ldAn dX12_lightAt_0 rfl, s_mo_ldA _ _⟩, (List.forall_mem_cons.mpr ⟨⟨s_ldIn dX12_lightAt_1 rfl, s_mo_ldI _ _⟩, (List.forall_mem_cons.mpr ⟨⟨s_ldIn dX12_lightAt_2 rfl, s_mo_ldI _ _⟩, (List.forall_mem_cons.mpr ⟨⟨s_sV mk_207 mk_206 ok_206 (by decide +kernel) dX12_lightAt_3 w_1529 w_1531 wp_57 (Or.inr ⟨8, _, _, rfl, rfl⟩), s_h0 mk_207⟩, (List.forall_mem_cons.mpr ⟨⟨s_ldAn dX12_lightAt_6 rfl, s_mo_ldA _ _⟩, (List.forall_mem_cons.mpr ⟨⟨s_ldIn dX12_lightAt_7 rfl, s_mo_ldI _ _⟩, (List.forall_mem_cons.mpr ⟨⟨s_iconst dX12_lightAt_8 (by decide +kernel), s_mo_push _ _⟩, (List.forall_mem_cons.mpr ⟨⟨s_sV mk_207 mk_158 ok_158 (by decide +kernel) dX12_lightAt_9 w_1469 w_1471 wp_52 (Or.inr ⟨8, _, _, rfl, rfl⟩), s_h0 mk_207⟩, (List.forall_mem_cons.mpr ⟨⟨s_iadd dX12_lightAt_12, s_mo_bin _ _⟩, (List.forall_mem_cons.mpr ⟨s_r1 mk_207 dX12_lightAt_13, (fun _ h => absurd h List.not_mem_nil)⟩)⟩)⟩)⟩)⟩)⟩)⟩)⟩)⟩)⟩)
theorem km_207 : ∀ t ∈ tm_207, s_tok 207 t := (List.forall_mem_cons.mpr ⟨s_lift mk_207 kb_207_0, (fun _ h => absurd h List.not_mem_nil)⟩)
theorem dX12_light_0 : decode cX12_light 0 = .ok (.aload_n 0, 1) := by decide +kernel
theorem dX12_light_1 : decode cX12_light 1 = .ok (.iconst 0, 1) := by decide +kernel
theorem dX12_light_2 : decode cX12_light 2 = .ok (.putfield 3, 3) := by decide +kernel
theorem dX12_light_5 : decode cX12_light 5 = .ok (.aload_n 0, 1) := by decide +kernel
theorem dX12_light_6 : decode cX12_light 6 = .ok (.aload_n 0, 1) := by decide +kernel
theorem dX12_light_7 : decode cX12_light 7 = .ok (.iload_n 1, 1) := by decide +kernel
theorem dX12_light_8 : decode cX12_light 8 = .ok (.invokevirtual 264, 3) := by decide +kernel
theorem dX12_light_11 : decode cX12_light 11 = .ok (.ifCond .ne 10, 3) := by decide +kernel
theorem dX12_light_14 : decode cX12_light 14 = .ok (.iload_n 2, 1) := by decide +kernel
theorem dX12_light_15 : decode cX12_light 15 = .ok (.invokestatic 270, 3) := by decide +kernel
theorem dX12_light_18 : decode cX12_light 18 = .ok (.ifCond .eq 7, 3) := by decide +kernel
theorem dX12_light_21 : decode cX12_light 21 = .ok (.iconst 1, 1) := by decide +kernel
theorem dX12_light_22 : decode cX12_light 22 = .ok (.goto 4, 3) := by decide +kernel
theorem dX12_light_25 : decode cX12_light 25 = .ok (.iconst 0, 1) := by decide +kernel
theorem dX12_light_26 : decode cX12_light 26 = .ok (.iconst 1, 1) := by decide +kernel
theorem dX12_light_27 : decode cX12_light 27 = .ok (.invokevirtual 234, 3) := by decide +kernel
theorem dX12_light_30 : decode cX12_light 30 = .ok (.ifCond .ne 25, 3) := by decide +kernel
theorem dX12_light_33 : decode cX12_light 33 = .ok (.aload_n 0, 1) := by decide +kernel
theorem dX12_light_34 : decode cX12_light 34 = .ok (.iload_n 3, 1) := by decide +kernel
theorem dX12_light_35 : decode cX12_light 35 = .ok (.iconst 0, 1) := by decide +kernel
theorem dX12_light_36 : decode cX12_light 36 = .ok (.iconst 2, 1) := by decide +kernel
theorem dX12_light_37 : decode cX12_light 37 = .ok (.invokestatic 84, 3) := by decide +kernel
theorem dX12_light_40 : decode cX12_light 40 = .ok (.ifCond .ne 7, 3) := by decide +kernel
theorem dX12_light_43 : decode cX12_light 43 = .ok (.iconst 1, 1) := by decide +kernel
theorem dX12_light_44 : decode cX12_light 44 = .ok (.goto 4, 3) := by decide +kernel
theorem dX12_light_47 : decode cX12_light 47 = .ok (.iconst 0, 1) := by decide +kernel
theorem dX12_light_48 : decode cX12_light 48 = .ok (.iconst 2, 1) := by decide +kernel
theorem dX12_light_49 : decode cX12_light 49 = .ok (.invokevirtual 234, 3) := by decide +kernel
theorem dX12_light_52 : decode cX12_light 52 = .ok (.ifCond .eq 5, 3) := by decide +kernel
theorem dX12_light_55 : decode cX12_light 55 = .ok (.iconst 0, 1) := by decide +kernel
theorem dX12_light_56 : decode cX12_light 56 = .ok (.ireturn, 1) := by decide +kernel
theorem dX12_light_57 : decode cX12_light 57 = .ok (.aload_n 0, 1) := by decide +kernel
theorem dX12_light_58 : decode cX12_light 58 = .ok (.iload_n 1, 1) := by decide +kernel
theorem dX12_light_59 : decode cX12_light 59 = .ok (.iload_n 2, 1) := by decide +kernel
theorem dX12_light_60 : decode cX12_light 60 = .ok (.invokevirtual 279, 3) := by decide +kernel
theorem dX12_light_63 : decode cX12_light 63 = .ok (.istore 4, 2) := by decide +kernel
theorem dX12_light_65 : decode cX12_light 65 = .ok (.iload_n 3, 1) := by decide +kernel
theorem dX12_light_66 : decode cX12_light 66 = .ok (.ifCond .ne 8, 3) := by decide +kernel
theorem dX12_light_69 : decode cX12_light 69 = .ok (.iload 4, 2) := by decide +kernel
theorem dX12_light_71 : decode cX12_light 71 = .ok (.goto 24, 3) := by decide +kernel
theorem dX12_light_74 : decode cX12_light 74 = .ok (.iload_n 3, 1) := by decide +kernel
theorem dX12_light_75 : decode cX12_light 75 = .ok (.iconst 1, 1) := by decide +kernel
theorem dX12_light_76 : decode cX12_light 76 = .ok (.if_icmp .ne 13, 3) := by decide +kernel
theorem dX12_light_79 : decode cX12_light 79 = .ok (.iload_n 2, 1) := by decide +kernel
theorem dX12_light_80 : decode cX12_light 80 = .ok (.invokestatic 276, 3) := by decide +kernel
theorem dX12_light_83 : decode cX12_light 83 = .ok (.iload 4, 2) := by decide +kernel
theorem dX12_light_85 : decode cX12_light 85 = .ok (.isub, 1) := by decide +kernel
theorem dX12_light_86 : decode cX12_light 86 = .ok (.goto 9, 3) := by decide +kernel
theorem dX12_light_89 : decode cX12_light 89 = .ok (.aload_n 0, 1) := by decide +kernel
theorem dX12_light_90 : decode cX12_light 90 = .ok (.iload_n 1, 1) := by decide +kernel
theorem dX12_light_91 : decode cX12_light 91 = .ok (.iload_n 2, 1) := by decide +kernel
theorem dX12_light_92 : decode cX12_light 92 = .ok (.invokevirtual 282, 3) := by decide +kernel
theorem dX12_light_95 : decode cX12_light 95 = .ok (.ireturn, 1) := by decide +kernel
set_option maxRecDepth 20000 in
theorem kb_208_0 : ∀ q ∈ tb_208_0, s_atx 208 yX12_light cX12_light q.1 q.2 := (List.forall_mem_cons.mpr ⟨⟨s_ldAn dX12_light_0 rfl, s_mo_ldA _ _⟩, (List.forall_mem_cons.mpr ⟨⟨s_iconst dX12_light_1 (by decide +kernel), s_mo_push _ _⟩, (List.forall_mem_cons.mpr ⟨⟨s_putI (ci := 8) (k := 0) rfl (by decide) inX12 tyX12_ok nmX12 rfl rfl w_1221 dX12_light_2, s_mo_putI _ _ _⟩, (List.forall_mem_cons.mpr ⟨⟨s_ldAn dX12_light_5 rfl, s_mo_ldA _ _⟩, (List.forall_mem_cons.mpr ⟨⟨s_ldAn dX12_light_6 rfl, s_mo_ldA _ _⟩, (List.forall_mem_cons.mpr ⟨⟨s_ldIn dX12_light_7 rfl, s_mo_ldI _ _⟩, (List.forall_mem_cons.mpr ⟨⟨s_sV mk_208 mk_160 ok_160 (by decide +kernel) dX12_light_8 w_1450 w_1452 wp_48 (Or.inr ⟨8, _, _, rfl, rfl⟩), s_h0 mk_208⟩, (List.forall_mem_cons.mpr ⟨⟨s_ifne dX12_light_11 (by decide), s_mo_ifne _ _⟩, (List.forall_mem_cons.mpr ⟨⟨s_ldIn dX12_light_14 rfl, s_mo_ldI _ _⟩, (List.forall_mem_cons.mpr ⟨⟨s_sS mk_208 mk_161 ok_161 (by decide +kernel) dX12_light_15 w_1503 w_1504, s_h0 mk_208⟩, (List.forall_mem_cons.mpr ⟨⟨s_ifeq dX12_light_18 (by decide), s_mo_ifeq _ _⟩, (List.forall_mem_cons.mpr ⟨⟨s_iconst dX12_light_21 (by decide +kernel), s_mo_push _ _⟩, (List.forall_mem_cons.mpr ⟨⟨s_goto dX12_light_22 (by decide), s_mo_goto _⟩, (List.forall_mem_cons.mpr ⟨⟨s_iconst dX12_light_25 (by decide +kernel), s_mo_push _ _⟩, (List.forall_mem_cons.mpr ⟨⟨s_iconst dX12_light_26 (by decide +kernel), s_mo_push _ _⟩, (List.forall_mem_cons.mpr ⟨⟨s_sV mk_208 mk_149 ok_149 (by decide +kernel) dX12_light_27 w_1438 w_1440 wp_47 (Or.inr ⟨8, _, _, rfl, rfl⟩), s_h0 mk_208⟩, (List.forall_mem_cons.mpr ⟨⟨s_ifne dX12_light_30 (by decide), s_mo_ifne _ _⟩, (List.forall_mem_cons.mpr ⟨⟨s_ldAn dX12_light_33 rfl, s_mo_ldA _ _⟩, (List.forall_mem_cons.mpr ⟨⟨s_ldIn dX12_light_34 rfl, s_mo_ldI _ _⟩, (List.forall_mem_cons.mpr ⟨⟨s_iconst dX12_light_35 (by decide +kernel), s_mo_push _ _⟩, (List.forall_mem_cons.mpr ⟨⟨s_iconst dX12_light_36 (by decide +kernel), s_mo_push _ _⟩, (List.forall_mem_cons.mpr ⟨⟨s_sS mk_208 mk_150 ok_150 (by decide +kernel) dX12_light_37 w_1458 w_1459, s_h0 mk_208⟩, (List.forall_mem_cons.mpr ⟨⟨s_ifne dX12_light_40 (by decide), s_mo_ifne _ _⟩, (List.forall_mem_cons.mpr ⟨⟨s_iconst dX12_light_43 (by decide +kernel), s_mo_push _ _⟩, (List.forall_mem_cons.mpr ⟨⟨s_goto dX12_light_44 (by decide), s_mo_goto _⟩, (List.forall_mem_cons.mpr ⟨⟨s_iconst dX12_light_47 (by decide +kernel), s_mo_push _ _⟩, (List.forall_mem_cons.mpr ⟨⟨s_iconst dX12_light_48 (by decide +kernel), s_mo_push _ _⟩, (List.forall_mem_cons.mpr ⟨⟨s_sV mk_208 mk_149 ok_149 (by decide +kernel) dX12_light_49 w_1438 w_1440 wp_47 (Or.inr ⟨8, _, _, rfl, rfl⟩), s_h0 mk_208⟩, (List.forall_mem_cons.mpr ⟨⟨s_ifeq dX12_light_52 (by decide), s_mo_ifeq _ _⟩, (List.forall_mem_cons.mpr ⟨⟨s_iconst dX12_light_55 (by decide +kernel), s_mo_push _ _⟩, (List.forall_mem_cons.mpr ⟨s_r1 mk_208 dX12_light_56, (List.forall_mem_cons.mpr ⟨⟨s_ldAn dX12_light_57 rfl, s_mo_ldA _ _⟩, (List.forall_mem_cons.mpr ⟨⟨s_ldIn dX12_light_58 rfl, s_mo_ldI _ _⟩, (List.forall_mem_cons.mpr ⟨⟨s_ldIn dX12_light_59 rfl, s_mo_ldI _ _⟩, (List.forall_mem_cons.mpr ⟨⟨s_sV mk_208 mk_206 ok_206 (by decide +kernel) dX12_light_60 w_1529 w_1531 wp_57 (Or.inr ⟨8, _, _, rfl, rfl⟩), s_h0 mk_208⟩, (List.forall_mem_cons.mpr ⟨⟨s_stI dX12_light_63, s_mo_stI _ _⟩, (fun _ h => absurd h List.not_mem_nil)⟩)⟩)⟩)⟩)⟩)⟩)⟩)⟩)⟩)⟩)⟩)⟩)⟩)⟩)⟩)⟩)⟩)⟩)⟩)⟩)⟩)⟩)⟩)⟩)⟩)⟩)⟩)⟩)⟩)⟩)⟩)⟩)⟩)⟩)⟩)⟩)
set_option maxRecDepth 20000 in
theorem kb_208_1 : ∀ q ∈ tb_208_1, s_atx 208 yX12_light cX12_light q.1 q.2 := (List.forall_mem_cons.mpr ⟨⟨s_ldIn dX12_light_65 rfl, s_mo_ldI _ _⟩, (List.forall_mem_cons.mpr ⟨⟨s_ifne dX12_light_66 (by decide), s_mo_ifne _ _⟩, (List.forall_mem_cons.mpr ⟨⟨s_ldI dX12_light_69, s_mo_ldI _ _⟩, (List.forall_mem_cons.mpr ⟨⟨s_goto dX12_light_71 (by decide), s_mo_goto _⟩, (List.forall_mem_cons.mpr ⟨⟨s_ldIn dX12_light_74 rfl, s_mo_ldI _ _⟩, (List.forall_mem_cons.mpr ⟨⟨s_iconst dX12_light_75 (by decide +kernel), s_mo_push _ _⟩, (List.forall_mem_cons.mpr ⟨⟨s_icne dX12_light_76 (by decide), s_mo_icne _ _⟩, (List.forall_mem_cons.mpr ⟨⟨s_ldIn dX12_light_79 rfl, s_mo_ldI _ _⟩, (List.forall_mem_cons.mpr ⟨⟨s_sS mk_208 mk_191 ok_191 (by decide +kernel) dX12_light_80 w_1533 w_1534, s_h0 mk_208⟩, (List.forall_mem_cons.mpr ⟨⟨s_ldI dX12_light_83, s_mo_ldI _ _⟩, (List.forall_mem_cons.mpr ⟨⟨s_isub dX12_light_85, s_mo_bin _ _⟩, (List.forall_mem_cons.mpr ⟨⟨s_goto dX12_light_86 (by decide), s_mo_goto _⟩, (List.forall_mem_cons.mpr ⟨⟨s_ldAn dX12_light_89 rfl, s_mo_ldA _ _⟩, (List.forall_mem_cons.mpr ⟨⟨s_ldIn dX12_light_90 rfl, s_mo_ldI _ _⟩, (List.forall_mem_cons.mpr ⟨⟨s_ldIn dX12_light_91 rfl, s_mo_ldI _ _⟩, (List.forall_mem_cons.mpr ⟨⟨s_sV mk_208 mk_207 ok_207 (by decide +kernel) dX12_light_92 w_1537 w_1539 wp_58 (Or.inr ⟨8, _, _, rfl, rfl⟩), s_h0 mk_208⟩, (List.forall_mem_cons.mpr ⟨s_r1 mk_208 dX12_light_95, (fun _ h => absurd h List.not_mem_nil)⟩)⟩)⟩)⟩)⟩)⟩)⟩)⟩)⟩)⟩)⟩)⟩)⟩)⟩)⟩)⟩)⟩)
theorem km_208 : ∀ t ∈ tm_208, s_tok 208 t := (List.forall_mem_cons.mpr ⟨s_lift mk_208 kb_208_0, (List.forall_mem_cons.mpr ⟨s_lift mk_208 kb_208_1, (fun _ h => absurd h List.not_mem_nil)⟩)⟩)
theorem dX12_bill_0 : decode cX12_bill 0 = .ok (.aload_n 0, 1) := by decide +kernel
theorem dX12_bill_1 : decode cX12_bill 1 = .ok (.iconst 0, 1) := by decide +kernel
theorem dX12_bill_2 : decode cX12_bill 2 = .ok (.putfield 3, 3) := by decide +kernel
theorem dX12_bill_5 : decode cX12_bill 5 = .ok (.aload_n 0, 1) := by decide +kernel
theorem dX12_bill_6 : decode cX12_bill 6 = .ok (.iload_n 1, 1) := by decide +kernel
theorem dX12_bill_7 : decode cX12_bill 7 = .ok (.iconst 0, 1) := by decide +kernel
theorem dX12_bill_8 : decode cX12_bill 8 = .ok (.bipush 7, 2) := by decide +kernel
theorem dX12_bill_10 : decode cX12_bill 10 = .ok (.invokestatic 84, 3) := by decide +kernel
theorem dX12_bill_13 : decode cX12_bill 13 = .ok (.ifCond .eq 10, 3) := by decide +kernel
theorem dX12_bill_16 : decode cX12_bill 16 = .ok (.iload_n 2, 1) := by decide +kernel
theorem dX12_bill_17 : decode cX12_bill 17 = .ok (.invokestatic 270, 3) := by decide +kernel
theorem dX12_bill_20 : decode cX12_bill 20 = .ok (.ifCond .eq 7, 3) := by decide +kernel
theorem dX12_bill_23 : decode cX12_bill 23 = .ok (.iconst 1, 1) := by decide +kernel
theorem dX12_bill_24 : decode cX12_bill 24 = .ok (.goto 4, 3) := by decide +kernel
theorem dX12_bill_27 : decode cX12_bill 27 = .ok (.iconst 0, 1) := by decide +kernel
theorem dX12_bill_28 : decode cX12_bill 28 = .ok (.iconst 1, 1) := by decide +kernel
theorem dX12_bill_29 : decode cX12_bill 29 = .ok (.invokevirtual 234, 3) := by decide +kernel
theorem dX12_bill_32 : decode cX12_bill 32 = .ok (.ifCond .ne 27, 3) := by decide +kernel
theorem dX12_bill_35 : decode cX12_bill 35 = .ok (.aload_n 0, 1) := by decide +kernel
theorem dX12_bill_36 : decode cX12_bill 36 = .ok (.iload_n 3, 1) := by decide +kernel
theorem dX12_bill_37 : decode cX12_bill 37 = .ok (.iconst 0, 1) := by decide +kernel
theorem dX12_bill_38 : decode cX12_bill 38 = .ok (.sipush 999, 3) := by decide +kernel
theorem dX12_bill_41 : decode cX12_bill 41 = .ok (.invokestatic 84, 3) := by decide +kernel
theorem dX12_bill_44 : decode cX12_bill 44 = .ok (.ifCond .ne 7, 3) := by decide +kernel
theorem dX12_bill_47 : decode cX12_bill 47 = .ok (.iconst 1, 1) := by decide +kernel
theorem dX12_bill_48 : decode cX12_bill 48 = .ok (.goto 4, 3) := by decide +kernel
theorem dX12_bill_51 : decode cX12_bill 51 = .ok (.iconst 0, 1) := by decide +kernel
theorem dX12_bill_52 : decode cX12_bill 52 = .ok (.iconst 2, 1) := by decide +kernel
theorem dX12_bill_53 : decode cX12_bill 53 = .ok (.invokevirtual 234, 3) := by decide +kernel
theorem dX12_bill_56 : decode cX12_bill 56 = .ok (.ifCond .eq 5, 3) := by decide +kernel
theorem dX12_bill_59 : decode cX12_bill 59 = .ok (.iconst 0, 1) := by decide +kernel
theorem dX12_bill_60 : decode cX12_bill 60 = .ok (.ireturn, 1) := by decide +kernel
theorem dX12_bill_61 : decode cX12_bill 61 = .ok (.iconst 0, 1) := by decide +kernel
theorem dX12_bill_62 : decode cX12_bill 62 = .ok (.istore 4, 2) := by decide +kernel
theorem dX12_bill_64 : decode cX12_bill 64 = .ok (.iconst 0, 1) := by decide +kernel
theorem dX12_bill_65 : decode cX12_bill 65 = .ok (.istore 5, 2) := by decide +kernel
theorem dX12_bill_67 : decode cX12_bill 67 = .ok (.iload 5, 2) := by decide +kernel
theorem dX12_bill_69 : decode cX12_bill 69 = .ok (.aload_n 0, 1) := by decide +kernel
theorem dX12_bill_70 : decode cX12_bill 70 = .ok (.invokevirtual 80, 3) := by decide +kernel
theorem dX12_bill_73 : decode cX12_bill 73 = .ok (.if_icmp .ge 36, 3) := by decide +kernel
theorem dX12_bill_76 : decode cX12_bill 76 = .ok (.iload 4, 2) := by decide +kernel
theorem dX12_bill_78 : decode cX12_bill 78 = .ok (.aload_n 0, 1) := by decide +kernel
theorem dX12_bill_79 : decode cX12_bill 79 = .ok (.iload 5, 2) := by decide +kernel
theorem dX12_bill_81 : decode cX12_bill 81 = .ok (.iconst 4, 1) := by decide +kernel
theorem dX12_bill_82 : decode cX12_bill 82 = .ok (.invokevirtual 88, 3) := by decide +kernel
theorem dX12_bill_85 : decode cX12_bill 85 = .ok (.iload_n 1, 1) := by decide +kernel
theorem dX12_bill_86 : decode cX12_bill 86 = .ok (.if_icmp .ne 13, 3) := by decide +kernel
theorem dX12_bill_89 : decode cX12_bill 89 = .ok (.aload_n 0, 1) := by decide +kernel
theorem dX12_bill_90 : decode cX12_bill 90 = .ok (.iload 5, 2) := by decide +kernel
theorem dX12_bill_92 : decode cX12_bill 92 = .ok (.iload_n 2, 1) := by decide +kernel
theorem dX12_bill_93 : decode cX12_bill 93 = .ok (.invokevirtual 279, 3) := by decide +kernel
theorem dX12_bill_96 : decode cX12_bill 96 = .ok (.goto 4, 3) := by decide +kernel
theorem dX12_bill_99 : decode cX12_bill 99 = .ok (.iconst 0, 1) := by decide +kernel
theorem dX12_bill_100 : decode cX12_bill 100 = .ok (.iadd, 1) := by decide +kernel
theorem dX12_bill_101 : decode cX12_bill 101 = .ok (.istore 4, 2) := by decide +kernel
theorem dX12_bill_103 : decode cX12_bill 103 = .ok (.iinc 5 1, 3) := by decide +kernel
theorem dX12_bill_106 : decode cX12_bill 106 = .ok (.goto (-39), 3) := by decide +kernel
theorem dX12_bill_109 : decode cX12_bill 109 = .ok (.iload 4, 2) := by decide +kernel
theorem dX12_bill_111 : decode cX12_bill 111 = .ok (.iload_n 3, 1) := by decide +kernel
theorem dX12_bill_112 : decode cX12_bill 112 = .ok (.imul, 1) := by decide +kernel
theorem dX12_bill_113 : decode cX12_bill 113 = .ok (.bipush 10, 2) := by decide +kernel
theorem dX12_bill_115 : decode cX12_bill 115 = .ok (.idiv, 1) := by decide +kernel
theorem dX12_bill_116 : decode cX12_bill 116 = .ok (.ireturn, 1) := by decide +kernel
set_option maxRecDepth 20000 in
theorem kb_209_0 : ∀ q ∈ tb_209_0, s_atx 209 yX12_bill cX12_bill q.1 q.2 := (List.forall_mem_cons.mpr ⟨⟨s_ldAn dX12_bill_0 rfl, s_mo_ldA _ _⟩, (List.forall_mem_cons.mpr ⟨⟨s_iconst dX12_bill_1 (by decide +kernel), s_mo_push _ _⟩, (List.forall_mem_cons.mpr ⟨⟨s_putI (ci := 8) (k := 0) rfl (by decide) inX12 tyX12_ok nmX12 rfl rfl w_1221 dX12_bill_2, s_mo_putI _ _ _⟩, (List.forall_mem_cons.mpr ⟨⟨s_ldAn dX12_bill_5 rfl, s_mo_ldA _ _⟩, (List.forall_mem_cons.mpr ⟨⟨s_ldIn dX12_bill_6 rfl, s_mo_ldI _ _⟩, (List.forall_mem_cons.mpr ⟨⟨s_iconst dX12_bill_7 (by decide +kernel), s_mo_push _ _⟩, (List.forall_mem_cons.mpr ⟨⟨s_bipush dX12_bill_8 (by decide +kernel), s_mo_push _ _⟩, (List.forall_mem_cons.mpr ⟨⟨s_sS mk_209 mk_150 ok_150 (by decide +kernel) dX12_bill_10 w_1458 w_1459, s_h0 mk_209⟩, (List.forall_mem_cons.mpr ⟨⟨s_ifeq dX12_bill_13 (by decide), s_mo_ifeq _ _⟩, (List.forall_mem_cons.mpr ⟨⟨s_ldIn dX12_bill_16 rfl, s_mo_ldI _ _⟩, (List.forall_mem_cons.mpr ⟨⟨s_sS mk_209 mk_161 ok_161 (by decide +kernel) dX12_bill_17 w_1503 w_1504, s_h0 mk_209⟩, (List.forall_mem_cons.mpr ⟨⟨s_ifeq dX12_bill_20 (by decide), s_mo_ifeq _ _⟩, (List.forall_mem_cons.mpr ⟨⟨s_iconst dX12_bill_23 (by decide +kernel), s_mo_push _ _⟩, (List.forall_mem_cons.mpr ⟨⟨s_goto dX12_bill_24 (by decide), s_mo_goto _⟩, (List.forall_mem_cons.mpr ⟨⟨s_iconst dX12_bill_27 (by decide +kernel), s_mo_push _ _⟩, (List.forall_mem_cons.mpr ⟨⟨s_iconst dX12_bill_28 (by decide +kernel), s_mo_push _ _⟩, (List.forall_mem_cons.mpr ⟨⟨s_sV mk_209 mk_149 ok_149 (by decide +kernel) dX12_bill_29 w_1438 w_1440 wp_47 (Or.inr ⟨8, _, _, rfl, rfl⟩), s_h0 mk_209⟩, (List.forall_mem_cons.mpr ⟨⟨s_ifne dX12_bill_32 (by decide), s_mo_ifne _ _⟩, (List.forall_mem_cons.mpr ⟨⟨s_ldAn dX12_bill_35 rfl, s_mo_ldA _ _⟩, (List.forall_mem_cons.mpr ⟨⟨s_ldIn dX12_bill_36 rfl, s_mo_ldI _ _⟩, (List.forall_mem_cons.mpr ⟨⟨s_iconst dX12_bill_37 (by decide +kernel), s_mo_push _ _⟩, (List.forall_mem_cons.mpr ⟨⟨s_sipush dX12_bill_38 (by decide +kernel), s_mo_push _ _⟩, (List.forall_mem_cons.mpr ⟨⟨s_sS mk_209 mk_150 ok_150 (by decide +kernel) dX12_bill_41 w_1458 w_1459, s_h0 mk_209⟩, (List.forall_mem_cons.mpr ⟨⟨s_ifne dX12_bill_44 (by decide), s_mo_ifne _ _⟩, (List.forall_mem_cons.mpr ⟨⟨s_iconst dX12_bill_47 (by decide +kernel), s_mo_push _ _⟩, (List.forall_mem_cons.mpr ⟨⟨s_goto dX12_bill_48 (by decide), s_mo_goto _⟩, (List.forall_mem_cons.mpr ⟨⟨s_iconst dX12_bill_51 (by decide +kernel), s_mo_push _ _⟩, (List.forall_mem_cons.mpr ⟨⟨s_iconst dX12_bill_52 (by decide +kernel), s_mo_push _ _⟩, (List.forall_mem_cons.mpr ⟨⟨s_sV mk_209 mk_149 ok_149 (by decide +kernel) dX12_bill_53 w_1438 w_1440 wp_47 (Or.inr ⟨8, _, _, rfl, rfl⟩), s_h0 mk_209⟩, (List.forall_mem_cons.mpr ⟨⟨s_ifeq dX12_bill_56 (by decide), s_mo_ifeq _ _⟩, (List.forall_mem_cons.mpr ⟨⟨s_iconst dX12_bill_59 (by decide +kernel), s_mo_push _ _⟩, (List.forall_mem_cons.mpr ⟨s_r1 mk_209 dX12_bill_60, (List.forall_mem_cons.mpr ⟨⟨s_iconst dX12_bill_61 (by decide +kernel), s_mo_push _ _⟩, (List.forall_mem_cons.mpr ⟨⟨s_stI dX12_bill_62, s_mo_stI _ _⟩, (fun _ h => absurd h List.not_mem_nil)⟩)⟩)⟩)⟩)⟩)⟩)⟩)⟩)⟩)⟩)⟩)⟩)⟩)⟩)⟩)⟩)⟩)⟩)⟩)⟩)⟩)⟩)⟩)⟩)⟩)⟩)⟩)⟩)⟩)⟩)⟩)⟩)⟩)⟩)
set_option maxRecDepth 20000 in
theorem kb_209_1 : ∀ q ∈ tb_209_1, s_atx 209 yX12_bill cX12_bill q.1 q.2 := (List.forall_mem_cons.mpr ⟨⟨s_iconst dX12_bill_64 (by decide +kernel), s_mo_push _ _⟩, (List.forall_mem_cons.mpr ⟨⟨s_stI dX12_bill_65, s_mo_stI _ _⟩, (List.forall_mem_cons.mpr ⟨⟨s_ldI dX12_bill_67, s_mo_ldI _ _⟩, (List.forall_mem_cons.mpr ⟨⟨s_ldAn dX12_bill_69 rfl, s_mo_ldA _ _⟩, (List.forall_mem_cons.mpr ⟨⟨s_sV mk_209 mk_156 ok_156 (by decide +kernel) dX12_bill_70 w_1454 w_1456 wp_49 (Or.inr ⟨8, _, _, rfl, rfl⟩), s_h0 mk_209⟩, (List.forall_mem_cons.mpr ⟨⟨s_icge dX12_bill_73 (by decide), s_mo_icge _ _⟩, (List.forall_mem_cons.mpr ⟨⟨s_ldI dX12_bill_76, s_mo_ldI _ _⟩, (List.forall_mem_cons.mpr ⟨⟨s_ldAn dX12_bill_78 rfl, s_mo_ldA _ _⟩, (List.forall_mem_cons.mpr ⟨⟨s_ldI dX12_bill_79, s_mo_ldI _ _⟩, (List.forall_mem_cons.mpr ⟨⟨s_iconst dX12_bill_81 (by decide +kernel), s_mo_push _ _⟩, (List.forall_mem_cons.mpr ⟨⟨s_sV mk_209 mk_158 ok_158 (by decide +kernel) dX12_bill_82 w_1469 w_1471 wp_52 (Or.inr ⟨8, _, _, rfl, rfl⟩), s_h0 mk_209⟩, (List.forall_mem_cons.mpr ⟨⟨s_ldIn dX12_bill_85 rfl, s_mo_ldI _ _⟩, (List.forall_mem_cons.mpr ⟨⟨s_icne dX12_bill_86 (by decide), s_mo_icne _ _⟩, (List.forall_mem_cons.mpr ⟨⟨s_ldAn dX12_bill_89 rfl, s_mo_ldA _ _⟩, (List.forall_mem_cons.mpr ⟨⟨s_ldI dX12_bill_90, s_mo_ldI _ _⟩, (List.forall_mem_cons.mpr ⟨⟨s_ldIn dX12_bill_92 rfl, s_mo_ldI _ _⟩, (List.forall_mem_cons.mpr ⟨⟨s_sV mk_209 mk_206 ok_206 (by decide +kernel) dX12_bill_93 w_1529 w_1531 wp_57 (Or.inr ⟨8, _, _, rfl, rfl⟩), s_h0 mk_209⟩, (List.forall_mem_cons.mpr ⟨⟨s_goto dX12_bill_96 (by decide), s_mo_goto _⟩, (List.forall_mem_cons.mpr ⟨⟨s_iconst dX12_bill_99 (by decide +kernel), s_mo_push _ _⟩, (List.forall_mem_cons.mpr ⟨⟨s_iadd dX12_bill_100, s_mo_bin _ _⟩, (List.forall_mem_cons.mpr ⟨⟨s_stI dX12_bill_101, s_mo_stI _ _⟩, (List.forall_mem_cons.mpr ⟨⟨s_inc dX12_bill_103 (by decide +kernel), s_mo_inc _ _ _⟩, (List.forall_mem_cons.mpr ⟨⟨s_goto dX12_bill_106 (by decide), s_mo_goto _⟩, (List.forall_mem_cons.mpr ⟨⟨s_ldI dX12_bill_109, s_mo_ldI _ _⟩, (List.forall_mem_cons.mpr ⟨⟨s_ldIn dX12_bill_111 rfl, s_mo_ldI _ _⟩, (List.forall_mem_cons.mpr ⟨⟨s_imul dX12_bill_112, s_mo_bin _ _⟩, (List.forall_mem_cons.mpr ⟨⟨s_bipush dX12_bill_113 (by decide +kernel), s_mo_push _ _⟩, (List.forall_mem_cons.mpr ⟨⟨s_idiv dX12_bill_115, s_mo_div _⟩, (List.forall_mem_cons.mpr ⟨s_r1 mk_209 dX12_bill_116, (fun _ h => absurd h List.not_mem_nil)⟩)⟩)⟩)⟩)⟩)⟩)⟩)⟩)⟩)⟩)⟩)⟩)⟩)⟩)⟩)⟩)⟩)⟩)⟩)⟩)⟩)⟩)⟩)⟩)⟩)⟩)⟩)⟩)⟩)
theorem km_209 : ∀ t ∈ tm_209, s_tok 209 t := (List.forall_mem_cons.mpr ⟨s_lift mk_209 kb_209_0, (List.forall_mem_cons.mpr ⟨s_lift mk_209 kb_209_1, (fun _ h => absurd h List.not_mem_nil)⟩)⟩)
theorem dX12_factOf_0 : decode cX12_factOf 0 = .ok (.iload_n 1, 1) := by decide +kernel
theorem dX12_factOf_1 : decode cX12_factOf 1 = .ok (.tableswitch 90 0 6 #[43, 50, 57, 64, 67, 75, 82], 43) := by decide +kernel
theorem dX12_factOf_44 : decode cX12_factOf 44 = .ok (.aload_n 0, 1) := by decide +kernel
theorem dX12_factOf_45 : decode cX12_factOf 45 = .ok (.iload_n 3, 1) := by decide +kernel
theorem dX12_factOf_46 : decode cX12_factOf 46 = .ok (.iconst 0, 1) := by decide +kernel
theorem dX12_factOf_47 : decode cX12_factOf 47 = .ok (.invokevirtual 88, 3) := by decide +kernel
theorem dX12_factOf_50 : decode cX12_factOf 50 = .ok (.ireturn, 1) := by decide +kernel
theorem dX12_factOf_51 : decode cX12_factOf 51 = .ok (.aload_n 0, 1) := by decide +kernel
theorem dX12_factOf_52 : decode cX12_factOf 52 = .ok (.iload_n 3, 1) := by decide +kernel
theorem dX12_factOf_53 : decode cX12_factOf 53 = .ok (.iconst 2, 1) := by decide +kernel
theorem dX12_factOf_54 : decode cX12_factOf 54 = .ok (.invokevirtual 88, 3) := by decide +kernel
theorem dX12_factOf_57 : decode cX12_factOf 57 = .ok (.ireturn, 1) := by decide +kernel
theorem dX12_factOf_58 : decode cX12_factOf 58 = .ok (.aload_n 0, 1) := by decide +kernel
theorem dX12_factOf_59 : decode cX12_factOf 59 = .ok (.iload_n 3, 1) := by decide +kernel
theorem dX12_factOf_60 : decode cX12_factOf 60 = .ok (.iconst 3, 1) := by decide +kernel
theorem dX12_factOf_61 : decode cX12_factOf 61 = .ok (.invokevirtual 88, 3) := by decide +kernel
theorem dX12_factOf_64 : decode cX12_factOf 64 = .ok (.ireturn, 1) := by decide +kernel
theorem dX12_factOf_65 : decode cX12_factOf 65 = .ok (.iload 4, 2) := by decide +kernel
theorem dX12_factOf_67 : decode cX12_factOf 67 = .ok (.ireturn, 1) := by decide +kernel
theorem dX12_factOf_68 : decode cX12_factOf 68 = .ok (.aload_n 0, 1) := by decide +kernel
theorem dX12_factOf_69 : decode cX12_factOf 69 = .ok (.iload_n 3, 1) := by decide +kernel
theorem dX12_factOf_70 : decode cX12_factOf 70 = .ok (.iload 4, 2) := by decide +kernel
theorem dX12_factOf_72 : decode cX12_factOf 72 = .ok (.invokevirtual 282, 3) := by decide +kernel
theorem dX12_factOf_75 : decode cX12_factOf 75 = .ok (.ireturn, 1) := by decide +kernel
theorem dX12_factOf_76 : decode cX12_factOf 76 = .ok (.aload_n 0, 1) := by decide +kernel
theorem dX12_factOf_77 : decode cX12_factOf 77 = .ok (.iload_n 3, 1) := by decide +kernel
theorem dX12_factOf_78 : decode cX12_factOf 78 = .ok (.iconst 4, 1) := by decide +kernel
theorem dX12_factOf_79 : decode cX12_factOf 79 = .ok (.invokevirtual 88, 3) := by decide +kernel
theorem dX12_factOf_82 : decode cX12_factOf 82 = .ok (.ireturn, 1) := by decide +kernel
theorem dX12_factOf_83 : decode cX12_factOf 83 = .ok (.aload_n 0, 1) := by decide +kernel
theorem dX12_factOf_84 : decode cX12_factOf 84 = .ok (.iload_n 3, 1) := by decide +kernel
theorem dX12_factOf_85 : decode cX12_factOf 85 = .ok (.iload 4, 2) := by decide +kernel
theorem dX12_factOf_87 : decode cX12_factOf 87 = .ok (.invokevirtual 258, 3) := by decide +kernel
theorem dX12_factOf_90 : decode cX12_factOf 90 = .ok (.ireturn, 1) := by decide +kernel
theorem dX12_factOf_91 : decode cX12_factOf 91 = .ok (.iload_n 2, 1) := by decide +kernel
theorem dX12_factOf_92 : decode cX12_factOf 92 = .ok (.ireturn, 1) := by decide +kernel
set_option maxRecDepth 20000 in
theorem kb_210_0 : ∀ q ∈ tb_210_0, s_atx 210 yX12_factOf cX12_factOf q.1 q.2 := (List.forall_mem_cons.mpr ⟨⟨s_ldIn dX12_factOf_0 rfl, s_mo_ldI _ _⟩, (List.forall_mem_cons.mpr ⟨⟨s_table dX12_factOf_1 (by decide) (by decide) (by decide +kernel), s_mo_table _ _ _⟩, (List.forall_mem_cons.mpr ⟨⟨s_ldAn dX12_factOf_44 rfl, s_mo_ldA _ _⟩, (List.forall_mem_cons.mpr ⟨⟨s_ldIn dX12_factOf_45 rfl, s_mo_ldI _ _⟩, (List.forall_mem_cons.mpr ⟨⟨s_iconst dX12_factOf_46 (by decide +kernel), s_mo_push _ _⟩, (List.forall_mem_cons.mpr ⟨⟨s_sV mk_210 mk_158 ok_158 (by decide +kernel) dX12_factOf_47 w_1469 w_1471 wp_52 (Or.inr ⟨8, _, _, rfl, rfl⟩), s_h0 mk_210⟩, (List.forall_mem_cons.mpr ⟨s_r1 mk_210 dX12_factOf_50, (List.forall_mem_cons.mpr ⟨⟨s_ldAn dX12_factOf_51 rfl, s_mo_ldA _ _⟩, (List.forall_mem_cons.mpr ⟨⟨s_ldIn dX12_factOf_52 rfl, s_mo_ldI _ _⟩, (List.forall_mem_cons.mpr ⟨⟨s_iconst dX12_factOf_53 (by decide +kernel), s_mo_push _ _⟩, (List.forall_mem_cons.mpr ⟨⟨s_sV mk_210 mk_158 ok_158 (by decide +kernel) dX12_factOf_54 w_1469 w_1471 wp_52 (Or.inr ⟨8, _, _, rfl, rfl⟩), s_h0 mk_210⟩, (List.forall_mem_cons.mpr ⟨s_r1 mk_210 dX12_factOf_57, (List.forall_mem_cons.mpr ⟨⟨s_ldAn dX12_factOf_58 rfl, s_mo_ldA _ _⟩, (List.forall_mem_cons.mpr ⟨⟨s_ldIn dX12_factOf_59 rfl, s_mo_ldI _ _⟩, (List.forall_mem_cons.mpr ⟨⟨s_iconst dX12_factOf_60 (by decide +kernel), s_mo_push _ _⟩, (List.forall_mem_cons.mpr ⟨⟨s_sV mk_210 mk_158 ok_158 (by decide +kernel) dX12_factOf_61 w_1469 w_1471 wp_52 (Or.inr ⟨8, _, _, rfl, rfl⟩), s_h0 mk_210⟩, (fun _ h => absurd h List.not_mem_nil)⟩)⟩)⟩)⟩)⟩)⟩)⟩)⟩)⟩)⟩)⟩)⟩)⟩)⟩)⟩)⟩)
set_option maxRecDepth 20000 in
theorem kb_210_1 : ∀ q ∈ tb_210_1, s_atx 210 yX12_factOf cX12_factOf q.1 q.2 := (List.forall_mem_cons.mpr ⟨s_r1 mk_210 dX12_factOf_64, (List.forall_mem_cons.mpr ⟨⟨s_ldI dX12_factOf_65, s_mo_ldI _ _⟩, (List.forall_mem_cons.mpr ⟨s_r1 mk_210 dX12_factOf_67, (List.forall_mem_cons.mpr ⟨⟨s_ldAn dX12_factOf_68 rfl, s_mo_ldA _ _⟩, (List.forall_mem_cons.mpr ⟨⟨s_ldIn dX12_factOf_69 rfl, s_mo_ldI _ _⟩, (List.forall_mem_cons.mpr ⟨⟨s_ldI dX12_factOf_70, s_mo_ldI _ _⟩, (List.forall_mem_cons.mpr ⟨⟨s_sV mk_210 mk_207 ok_207 (by decide +kernel) dX12_factOf_72 w_1537 w_1539 wp_58 (Or.inr ⟨8, _, _, rfl, rfl⟩), s_h0 mk_210⟩, (List.forall_mem_cons.mpr ⟨s_r1 mk_210 dX12_factOf_75, (List.forall_mem_cons.mpr ⟨⟨s_ldAn dX12_factOf_76 rfl, s_mo_ldA _ _⟩, (List.forall_mem_cons.mpr ⟨⟨s_ldIn dX12_factOf_77 rfl, s_mo_ldI _ _⟩, (List.forall_mem_cons.mpr ⟨⟨s_iconst dX12_factOf_78 (by decide +kernel), s_mo_push _ _⟩, (List.forall_mem_cons.mpr ⟨⟨s_sV mk_210 mk_158 ok_158 (by decide +kernel) dX12_factOf_79 w_1469 w_1471 wp_52 (Or.inr ⟨8, _, _, rfl, rfl⟩), s_h0 mk_210⟩, (List.forall_mem_cons.mpr ⟨s_r1 mk_210 dX12_factOf_82, (List.forall_mem_cons.mpr ⟨⟨s_ldAn dX12_factOf_83 rfl, s_mo_ldA _ _⟩, (List.forall_mem_cons.mpr ⟨⟨s_ldIn dX12_factOf_84 rfl, s_mo_ldI _ _⟩, (List.forall_mem_cons.mpr ⟨⟨s_ldI dX12_factOf_85, s_mo_ldI _ _⟩, (List.forall_mem_cons.mpr ⟨⟨s_sV mk_210 mk_195 ok_195 (by decide +kernel) dX12_factOf_87 w_1506 w_1508 wp_55 (Or.inr ⟨8, _, _, rfl, rfl⟩), s_h0 mk_210⟩, (List.forall_mem_cons.mpr ⟨s_r1 mk_210 dX12_factOf_90, (List.forall_mem_cons.mpr ⟨⟨s_ldIn dX12_factOf_91 rfl, s_mo_ldI _ _⟩, (List.forall_mem_cons.mpr ⟨s_r1 mk_210 dX12_factOf_92, (fun _ h => absurd h List.not_mem_nil)⟩)⟩)⟩)⟩)⟩)⟩)⟩)⟩)⟩)⟩)⟩)⟩)⟩)⟩)⟩)⟩)⟩)⟩)⟩)⟩)
theorem km_210 : ∀ t ∈ tm_210, s_tok 210 t := (List.forall_mem_cons.mpr ⟨s_lift mk_210 kb_210_0, (List.forall_mem_cons.mpr ⟨s_lift mk_210 kb_210_1, (fun _ h => absurd h List.not_mem_nil)⟩)⟩)
theorem dX12_holdsLine_0 : decode cX12_holdsLine 0 = .ok (.iconst 0, 1) := by decide +kernel
theorem dX12_holdsLine_1 : decode cX12_holdsLine 1 = .ok (.istore 4, 2) := by decide +kernel
theorem dX12_holdsLine_3 : decode cX12_holdsLine 3 = .ok (.sipush 428, 3) := by decide +kernel
theorem dX12_holdsLine_6 : decode cX12_holdsLine 6 = .ok (.iconst 3, 1) := by decide +kernel
theorem dX12_holdsLine_7 : decode cX12_holdsLine 7 = .ok (.iload_n 1, 1) := by decide +kernel
theorem dX12_holdsLine_8 : decode cX12_holdsLine 8 = .ok (.imul, 1) := by decide +kernel
theorem dX12_holdsLine_9 : decode cX12_holdsLine 9 = .ok (.iadd, 1) := by decide +kernel
theorem dX12_holdsLine_10 : decode cX12_holdsLine 10 = .ok (.istore 5, 2) := by decide +kernel
theorem dX12_holdsLine_12 : decode cX12_holdsLine 12 = .ok (.aload_n 0, 1) := by decide +kernel
theorem dX12_holdsLine_13 : decode cX12_holdsLine 13 = .ok (.getfield 13, 3) := by decide +kernel
theorem dX12_holdsLine_16 : decode cX12_holdsLine 16 = .ok (.iload 5, 2) := by decide +kernel
theorem dX12_holdsLine_18 : decode cX12_holdsLine 18 = .ok (.iconst 1, 1) := by decide +kernel
theorem dX12_holdsLine_19 : decode cX12_holdsLine 19 = .ok (.iadd, 1) := by decide +kernel
theorem dX12_holdsLine_20 : decode cX12_holdsLine 20 = .ok (.iaload, 1) := by decide +kernel
theorem dX12_holdsLine_21 : decode cX12_holdsLine 21 = .ok (.istore 6, 2) := by decide +kernel
theorem dX12_holdsLine_23 : decode cX12_holdsLine 23 = .ok (.iload 6, 2) := by decide +kernel
theorem dX12_holdsLine_25 : decode cX12_holdsLine 25 = .ok (.aload_n 0, 1) := by decide +kernel
theorem dX12_holdsLine_26 : decode cX12_holdsLine 26 = .ok (.getfield 13, 3) := by decide +kernel
theorem dX12_holdsLine_29 : decode cX12_holdsLine 29 = .ok (.iload 5, 2) := by decide +kernel
theorem dX12_holdsLine_31 : decode cX12_holdsLine 31 = .ok (.iconst 2, 1) := by decide +kernel
theorem dX12_holdsLine_32 : decode cX12_holdsLine 32 = .ok (.iadd, 1) := by decide +kernel
theorem dX12_holdsLine_33 : decode cX12_holdsLine 33 = .ok (.iaload, 1) := by decide +kernel
theorem dX12_holdsLine_34 : decode cX12_holdsLine 34 = .ok (.if_icmp .ge 237, 3) := by decide +kernel
theorem dX12_holdsLine_37 : decode cX12_holdsLine 37 = .ok (.aload_n 0, 1) := by decide +kernel
theorem dX12_holdsLine_38 : decode cX12_holdsLine 38 = .ok (.getfield 13, 3) := by decide +kernel
theorem dX12_holdsLine_41 : decode cX12_holdsLine 41 = .ok (.sipush 464, 3) := by decide +kernel
theorem dX12_holdsLine_44 : decode cX12_holdsLine 44 = .ok (.iconst 2, 1) := by decide +kernel
theorem dX12_holdsLine_45 : decode cX12_holdsLine 45 = .ok (.iload 6, 2) := by decide +kernel
theorem dX12_holdsLine_47 : decode cX12_holdsLine 47 = .ok (.imul, 1) := by decide +kernel
theorem dX12_holdsLine_48 : decode cX12_holdsLine 48 = .ok (.iadd, 1) := by decide +kernel
theorem dX12_holdsLine_49 : decode cX12_holdsLine 49 = .ok (.iaload, 1) := by decide +kernel
theorem dX12_holdsLine_50 : decode cX12_holdsLine 50 = .ok (.istore 7, 2) := by decide +kernel
theorem dX12_holdsLine_52 : decode cX12_holdsLine 52 = .ok (.iload 7, 2) := by decide +kernel
theorem dX12_holdsLine_54 : decode cX12_holdsLine 54 = .ok (.bipush 7, 2) := by decide +kernel
theorem dX12_holdsLine_56 : decode cX12_holdsLine 56 = .ok (.if_icmp .gt 39, 3) := by decide +kernel
theorem dX12_holdsLine_59 : decode cX12_holdsLine 59 = .ok (.aload_n 0, 1) := by decide +kernel
theorem dX12_holdsLine_60 : decode cX12_holdsLine 60 = .ok (.getfield 36, 3) := by decide +kernel
theorem dX12_holdsLine_63 : decode cX12_holdsLine 63 = .ok (.iload 4, 2) := by decide +kernel
theorem dX12_holdsLine_65 : decode cX12_holdsLine 65 = .ok (.aload_n 0, 1) := by decide +kernel
theorem dX12_holdsLine_66 : decode cX12_holdsLine 66 = .ok (.iload 7, 2) := by decide +kernel
theorem dX12_holdsLine_68 : decode cX12_holdsLine 68 = .ok (.aload_n 0, 1) := by decide +kernel
theorem dX12_holdsLine_69 : decode cX12_holdsLine 69 = .ok (.getfield 13, 3) := by decide +kernel
theorem dX12_holdsLine_72 : decode cX12_holdsLine 72 = .ok (.sipush 464, 3) := by decide +kernel
theorem dX12_holdsLine_75 : decode cX12_holdsLine 75 = .ok (.iconst 2, 1) := by decide +kernel
theorem dX12_holdsLine_76 : decode cX12_holdsLine 76 = .ok (.iload 6, 2) := by decide +kernel
theorem dX12_holdsLine_78 : decode cX12_holdsLine 78 = .ok (.imul, 1) := by decide +kernel
theorem dX12_holdsLine_79 : decode cX12_holdsLine 79 = .ok (.iadd, 1) := by decide +kernel
theorem dX12_holdsLine_80 : decode cX12_holdsLine 80 = .ok (.iconst 1, 1) := by decide +kernel
theorem dX12_holdsLine_81 : decode cX12_holdsLine 81 = .ok (.iadd, 1) := by decide +kernel
theorem dX12_holdsLine_82 : decode cX12_holdsLine 82 = .ok (.iaload, 1) := by decide +kernel
theorem dX12_holdsLine_83 : decode cX12_holdsLine 83 = .ok (.iload_n 2, 1) := by decide +kernel
theorem dX12_holdsLine_84 : decode cX12_holdsLine 84 = .ok (.iload_n 3, 1) := by decide +kernel
theorem dX12_holdsLine_85 : decode cX12_holdsLine 85 = .ok (.invokevirtual 285, 3) := by decide +kernel
theorem dX12_holdsLine_88 : decode cX12_holdsLine 88 = .ok (.iastore, 1) := by decide +kernel
theorem dX12_holdsLine_89 : decode cX12_holdsLine 89 = .ok (.iinc 4 1, 3) := by decide +kernel
theorem dX12_holdsLine_92 : decode cX12_holdsLine 92 = .ok (.goto 173, 3) := by decide +kernel
theorem dX12_holdsLine_95 : decode cX12_holdsLine 95 = .ok (.iload 7, 2) := by decide +kernel
theorem dX12_holdsLine_97 : decode cX12_holdsLine 97 = .ok (.bipush 11, 2) := by decide +kernel
theorem dX12_holdsLine_99 : decode cX12_holdsLine 99 = .ok (.if_icmp .ne 26, 3) := by decide +kernel
theorem dX12_holdsLine_102 : decode cX12_holdsLine 102 = .ok (.aload_n 0, 1) := by decide +kernel
theorem dX12_holdsLine_103 : decode cX12_holdsLine 103 = .ok (.getfield 36, 3) := by decide +kernel
theorem dX12_holdsLine_106 : decode cX12_holdsLine 106 = .ok (.iload 4, 2) := by decide +kernel
theorem dX12_holdsLine_108 : decode cX12_holdsLine 108 = .ok (.iconst 1, 1) := by decide +kernel
theorem dX12_holdsLine_109 : decode cX12_holdsLine 109 = .ok (.isub, 1) := by decide +kernel
theorem dX12_holdsLine_110 : decode cX12_holdsLine 110 = .ok (.iconst 1, 1) := by decide +kernel
theorem dX12_holdsLine_111 : decode cX12_holdsLine 111 = .ok (.aload_n 0, 1) := by decide +kernel
theorem dX12_holdsLine_112 : decode cX12_holdsLine 112 = .ok (.getfield 36, 3) := by decide +kernel
theorem dX12_holdsLine_115 : decode cX12_holdsLine 115 = .ok (.iload 4, 2) := by decide +kernel
theorem dX12_holdsLine_117 : decode cX12_holdsLine 117 = .ok (.iconst 1, 1) := by decide +kernel
theorem dX12_holdsLine_118 : decode cX12_holdsLine 118 = .ok (.isub, 1) := by decide +kernel
theorem dX12_holdsLine_119 : decode cX12_holdsLine 119 = .ok (.iaload, 1) := by decide +kernel
theorem dX12_holdsLine_120 : decode cX12_holdsLine 120 = .ok (.isub, 1) := by decide +kernel
theorem dX12_holdsLine_121 : decode cX12_holdsLine 121 = .ok (.iastore, 1) := by decide +kernel
theorem dX12_holdsLine_122 : decode cX12_holdsLine 122 = .ok (.goto 143, 3) := by decide +kernel
theorem dX12_holdsLine_125 : decode cX12_holdsLine 125 = .ok (.iinc 4 (-1), 3) := by decide +kernel
theorem dX12_holdsLine_128 : decode cX12_holdsLine 128 = .ok (.aload_n 0, 1) := by decide +kernel
theorem dX12_holdsLine_129 : decode cX12_holdsLine 129 = .ok (.getfield 36, 3) := by decide +kernel
theorem dX12_holdsLine_132 : decode cX12_holdsLine 132 = .ok (.iload 4, 2) := by decide +kernel
theorem dX12_holdsLine_134 : decode cX12_holdsLine 134 = .ok (.iconst 1, 1) := by decide +kernel
theorem dX12_holdsLine_135 : decode cX12_holdsLine 135 = .ok (.isub, 1) := by decide +kernel
theorem dX12_holdsLine_136 : decode cX12_holdsLine 136 = .ok (.iaload, 1) := by decide +kernel
theorem dX12_holdsLine_137 : decode cX12_holdsLine 137 = .ok (.istore 8, 2) := by decide +kernel
theorem dX12_holdsLine_139 : decode cX12_holdsLine 139 = .ok (.aload_n 0, 1) := by decide +kernel
theorem dX12_holdsLine_140 : decode cX12_holdsLine 140 = .ok (.getfield 36, 3) := by decide +kernel
theorem dX12_holdsLine_143 : decode cX12_holdsLine 143 = .ok (.iload 4, 2) := by decide +kernel
theorem dX12_holdsLine_145 : decode cX12_holdsLine 145 = .ok (.iaload, 1) := by decide +kernel
theorem dX12_holdsLine_146 : decode cX12_holdsLine 146 = .ok (.istore 9, 2) := by decide +kernel
theorem dX12_holdsLine_148 : decode cX12_holdsLine 148 = .ok (.iload 7, 2) := by decide +kernel
theorem dX12_holdsLine_150 : decode cX12_holdsLine 150 = .ok (.bipush 9, 2) := by decide +kernel
theorem dX12_holdsLine_152 : decode cX12_holdsLine 152 = .ok (.if_icmp .ne 18, 3) := by decide +kernel
theorem dX12_holdsLine_155 : decode cX12_holdsLine 155 = .ok (.iload 8, 2) := by decide +kernel
theorem dX12_holdsLine_157 : decode cX12_holdsLine 157 = .ok (.iload 9, 2) := by decide +kernel
theorem dX12_holdsLine_159 : decode cX12_holdsLine 159 = .ok (.if_icmp .ge 7, 3) := by decide +kernel
theorem dX12_holdsLine_162 : decode cX12_holdsLine 162 = .ok (.iconst 1, 1) := by decide +kernel
theorem dX12_holdsLine_163 : decode cX12_holdsLine 163 = .ok (.goto 66, 3) := by decide +kernel
theorem dX12_holdsLine_166 : decode cX12_holdsLine 166 = .ok (.iconst 0, 1) := by decide +kernel
theorem dX12_holdsLine_167 : decode cX12_holdsLine 167 = .ok (.goto 62, 3) := by decide +kernel
theorem dX12_holdsLine_170 : decode cX12_holdsLine 170 = .ok (.iload 7, 2) := by decide +kernel
theorem dX12_holdsLine_172 : decode cX12_holdsLine 172 = .ok (.bipush 10, 2) := by decide +kernel
theorem dX12_holdsLine_174 : decode cX12_holdsLine 174 = .ok (.if_icmp .ne 18, 3) := by decide +kernel
theorem dX12_holdsLine_177 : decode cX12_holdsLine 177 = .ok (.iload 8, 2) := by decide +kernel
theorem dX12_holdsLine_179 : decode cX12_holdsLine 179 = .ok (.iload 9, 2) := by decide +kernel
theorem dX12_holdsLine_181 : decode cX12_holdsLine 181 = .ok (.if_icmp .le 7, 3) := by decide +kernel
theorem dX12_holdsLine_184 : decode cX12_holdsLine 184 = .ok (.iconst 1, 1) := by decide +kernel
theorem dX12_holdsLine_185 : decode cX12_holdsLine 185 = .ok (.goto 44, 3) := by decide +kernel
theorem dX12_holdsLine_188 : decode cX12_holdsLine 188 = .ok (.iconst 0, 1) := by decide +kernel
theorem dX12_holdsLine_189 : decode cX12_holdsLine 189 = .ok (.goto 40, 3) := by decide +kernel
theorem dX12_holdsLine_192 : decode cX12_holdsLine 192 = .ok (.iload 7, 2) := by decide +kernel
theorem dX12_holdsLine_194 : decode cX12_holdsLine 194 = .ok (.bipush 12, 2) := by decide +kernel
theorem dX12_holdsLine_196 : decode cX12_holdsLine 196 = .ok (.if_icmp .ne 20, 3) := by decide +kernel
theorem dX12_holdsLine_199 : decode cX12_holdsLine 199 = .ok (.iload 8, 2) := by decide +kernel
theorem dX12_holdsLine_201 : decode cX12_holdsLine 201 = .ok (.iload 9, 2) := by decide +kernel
theorem dX12_holdsLine_203 : decode cX12_holdsLine 203 = .ok (.iadd, 1) := by decide +kernel
theorem dX12_holdsLine_204 : decode cX12_holdsLine 204 = .ok (.iconst 2, 1) := by decide +kernel
theorem dX12_holdsLine_205 : decode cX12_holdsLine 205 = .ok (.if_icmp .ne 7, 3) := by decide +kernel
theorem dX12_holdsLine_208 : decode cX12_holdsLine 208 = .ok (.iconst 1, 1) := by decide +kernel
theorem dX12_holdsLine_209 : decode cX12_holdsLine 209 = .ok (.goto 20, 3) := by decide +kernel
theorem dX12_holdsLine_212 : decode cX12_holdsLine 212 = .ok (.iconst 0, 1) := by decide +kernel
theorem dX12_holdsLine_213 : decode cX12_holdsLine 213 = .ok (.goto 16, 3) := by decide +kernel
theorem dX12_holdsLine_216 : decode cX12_holdsLine 216 = .ok (.iload 8, 2) := by decide +kernel
theorem dX12_holdsLine_218 : decode cX12_holdsLine 218 = .ok (.iload 9, 2) := by decide +kernel
theorem dX12_holdsLine_220 : decode cX12_holdsLine 220 = .ok (.iadd, 1) := by decide +kernel
theorem dX12_holdsLine_221 : decode cX12_holdsLine 221 = .ok (.ifCond .le 7, 3) := by decide +kernel
theorem dX12_holdsLine_224 : decode cX12_holdsLine 224 = .ok (.iconst 1, 1) := by decide +kernel
theorem dX12_holdsLine_225 : decode cX12_holdsLine 225 = .ok (.goto 4, 3) := by decide +kernel
theorem dX12_holdsLine_228 : decode cX12_holdsLine 228 = .ok (.iconst 0, 1) := by decide +kernel
theorem dX12_holdsLine_229 : decode cX12_holdsLine 229 = .ok (.istore 10, 2) := by decide +kernel
theorem dX12_holdsLine_231 : decode cX12_holdsLine 231 = .ok (.aload_n 0, 1) := by decide +kernel
theorem dX12_holdsLine_232 : decode cX12_holdsLine 232 = .ok (.getfield 36, 3) := by decide +kernel
theorem dX12_holdsLine_235 : decode cX12_holdsLine 235 = .ok (.iload 4, 2) := by decide +kernel
theorem dX12_holdsLine_237 : decode cX12_holdsLine 237 = .ok (.iconst 1, 1) := by decide +kernel
theorem dX12_holdsLine_238 : decode cX12_holdsLine 238 = .ok (.isub, 1) := by decide +kernel
theorem dX12_holdsLine_239 : decode cX12_holdsLine 239 = .ok (.iload 7, 2) := by decide +kernel
theorem dX12_holdsLine_241 : decode cX12_holdsLine 241 = .ok (.bipush 8, 2) := by decide +kernel
theorem dX12_holdsLine_243 : decode cX12_holdsLine 243 = .ok (.if_icmp .ne 11, 3) := by decide +kernel
theorem dX12_holdsLine_246 : decode cX12_holdsLine 246 = .ok (.iload 8, 2) := by decide +kernel
theorem dX12_holdsLine_248 : decode cX12_holdsLine 248 = .ok (.iload 9, 2) := by decide +kernel
theorem dX12_holdsLine_250 : decode cX12_holdsLine 250 = .ok (.iadd, 1) := by decide +kernel
theorem dX12_holdsLine_251 : decode cX12_holdsLine 251 = .ok (.goto 13, 3) := by decide +kernel
theorem dX12_holdsLine_254 : decode cX12_holdsLine 254 = .ok (.iload 10, 2) := by decide +kernel
theorem dX12_holdsLine_256 : decode cX12_holdsLine 256 = .ok (.ifCond .eq 7, 3) := by decide +kernel
theorem dX12_holdsLine_259 : decode cX12_holdsLine 259 = .ok (.iconst 1, 1) := by decide +kernel
theorem dX12_holdsLine_260 : decode cX12_holdsLine 260 = .ok (.goto 4, 3) := by decide +kernel
theorem dX12_holdsLine_263 : decode cX12_holdsLine 263 = .ok (.iconst 0, 1) := by decide +kernel
theorem dX12_holdsLine_264 : decode cX12_holdsLine 264 = .ok (.iastore, 1) := by decide +kernel
theorem dX12_holdsLine_265 : decode cX12_holdsLine 265 = .ok (.iinc 6 1, 3) := by decide +kernel
theorem dX12_holdsLine_268 : decode cX12_holdsLine 268 = .ok (.goto (-245), 3) := by decide +kernel
theorem dX12_holdsLine_271 : decode cX12_holdsLine 271 = .ok (.iload 4, 2) := by decide +kernel
theorem dX12_holdsLine_273 : decode cX12_holdsLine 273 = .ok (.ifCond .eq 13, 3) := by decide +kernel
theorem dX12_holdsLine_276 : decode cX12_holdsLine 276 = .ok (.aload_n 0, 1) := by decide +kernel
theorem dX12_holdsLine_277 : decode cX12_holdsLine 277 = .ok (.getfield 36, 3) := by decide +kernel
theorem dX12_holdsLine_280 : decode cX12_holdsLine 280 = .ok (.iconst 0, 1) := by decide +kernel
theorem dX12_holdsLine_281 : decode cX12_holdsLine 281 = .ok (.iaload, 1) := by decide +kernel
theorem dX12_holdsLine_282 : decode cX12_holdsLine 282 = .ok (.iconst 1, 1) := by decide +kernel
theorem dX12_holdsLine_283 : decode cX12_holdsLine 283 = .ok (.if_icmp .ne 7, 3) := by decide +kernel
theorem dX12_holdsLine_286 : decode cX12_holdsLine 286 = .ok (.iconst 1, 1) := by decide +kernel
theorem dX12_holdsLine_287 : decode cX12_holdsLine 287 = .ok (.goto 4, 3) := by decide +kernel
theorem dX12_holdsLine_290 : decode cX12_holdsLine 290 = .ok (.iconst 0, 1) := by decide +kernel
theorem dX12_holdsLine_291 : decode cX12_holdsLine 291 = .ok (.ireturn, 1) := by decide +kernel
set_option maxRecDepth 20000 in
theorem kb_211_0 : ∀ q ∈ tb_211_0, s_atx 211 yX12_holdsLine cX12_holdsLine q.1 q.2 := (List.forall_mem_cons.mpr ⟨⟨s_iconst dX12_holdsLine_0 (by decide +kernel), s_mo_push _ _⟩, (List.forall_mem_cons.mpr ⟨⟨s_stI dX12_holdsLine_1, s_mo_stI _ _⟩, (List.forall_mem_cons.mpr ⟨⟨s_sipush dX12_holdsLine_3 (by decide +kernel), s_mo_push _ _⟩, (List.forall_mem_cons.mpr ⟨⟨s_iconst dX12_holdsLine_6 (by decide +kernel), s_mo_push _ _⟩, (List.forall_mem_cons.mpr ⟨⟨s_ldIn dX12_holdsLine_7 rfl, s_mo_ldI _ _⟩, (List.forall_mem_cons.mpr ⟨⟨s_imul dX12_holdsLine_8, s_mo_bin _ _⟩, (List.forall_mem_cons.mpr ⟨⟨s_iadd dX12_holdsLine_9, s_mo_bin _ _⟩, (List.forall_mem_cons.mpr ⟨⟨s_stI dX12_holdsLine_10, s_mo_stI _ _⟩, (List.forall_mem_cons.mpr ⟨⟨s_ldAn dX12_holdsLine_12 rfl, s_mo_ldA _ _⟩, (List.forall_mem_cons.mpr ⟨⟨s_getf (ci := 8) (k := 1) rfl (by decide) inX12 w_1222 dX12_holdsLine_13, s_mo_getf _ _ _⟩, (List.forall_mem_cons.mpr ⟨⟨s_ldI dX12_holdsLine_16, s_mo_ldI _ _⟩, (List.forall_mem_cons.mpr ⟨⟨s_iconst dX12_holdsLine_18 (by decide +kernel), s_mo_push _ _⟩, (List.forall_mem_cons.mpr ⟨⟨s_iadd dX12_holdsLine_19, s_mo_bin _ _⟩, (List.forall_mem_cons.mpr ⟨⟨s_iald dX12_holdsLine_20, s_mo_iald _⟩, (List.forall_mem_cons.mpr ⟨⟨s_stI dX12_holdsLine_21, s_mo_stI _ _⟩, (List.forall_mem_cons.mpr ⟨⟨s_ldI dX12_holdsLine_23, s_mo_ldI _ _⟩, (List.forall_mem_cons.mpr ⟨⟨s_ldAn dX12_holdsLine_25 rfl, s_mo_ldA _ _⟩, (List.forall_mem_cons.mpr ⟨⟨s_getf (ci := 8) (k := 1) rfl (by decide) inX12 w_1222 dX12_holdsLine_26, s_mo_getf _ _ _⟩, (List.forall_mem_cons.mpr ⟨⟨s_ldI dX12_holdsLine_29, s_mo_ldI _ _⟩, (List.forall_mem_cons.mpr ⟨⟨s_iconst dX12_holdsLine_31 (by decide +kernel), s_mo_push _ _⟩, (List.forall_mem_cons.mpr ⟨⟨s_iadd dX12_holdsLine_32, s_mo_bin _ _⟩, (List.forall_mem_cons.mpr ⟨⟨s_iald dX12_holdsLine_33, s_mo_iald _⟩, (List.forall_mem_cons.mpr ⟨⟨s_icge dX12_holdsLine_34 (by decide), s_mo_icge _ _⟩, (List.forall_mem_cons.mpr ⟨⟨s_ldAn dX12_holdsLine_37 rfl, s_mo_ldA _ _⟩, (List.forall_mem_cons.mpr ⟨⟨s_getf (ci := 8) (k := 1) rfl (by decide) inX12 w_1222 dX12_holdsLine_38, s_mo_getf _ _ _⟩, (List.forall_mem_cons.mpr ⟨⟨s_sipush dX12_holdsLine_41 (by decide +kernel), s_mo_push _ _⟩, (List.forall_mem_cons.mpr ⟨⟨s_iconst dX12_holdsLine_44 (by decide +kernel), s_mo_push _ _⟩, (List.forall_mem_cons.mpr ⟨⟨s_ldI dX12_holdsLine_45, s_mo_ldI _ _⟩, (List.forall_mem_cons.mpr ⟨⟨s_imul dX12_holdsLine_47, s_mo_bin _ _⟩, (List.forall_mem_cons.mpr ⟨⟨s_iadd dX12_holdsLine_48, s_mo_bin _ _⟩, (List.forall_mem_cons.mpr ⟨⟨s_iald dX12_holdsLine_49, s_mo_iald _⟩, (List.forall_mem_cons.mpr ⟨⟨s_stI dX12_holdsLine_50, s_mo_stI _ _⟩, (List.forall_mem_cons.mpr ⟨⟨s_ldI dX12_holdsLine_52, s_mo_ldI _ _⟩, (List.forall_mem_cons.mpr ⟨⟨s_bipush dX12_holdsLine_54 (by decide +kernel), s_mo_push _ _⟩, (List.forall_mem_cons.mpr ⟨⟨s_icgt dX12_holdsLine_56 (by decide), s_mo_icgt _ _⟩, (List.forall_mem_cons.mpr ⟨⟨s_ldAn dX12_holdsLine_59 rfl, s_mo_ldA _ _⟩, (List.forall_mem_cons.mpr ⟨⟨s_getf (ci := 8) (k := 16) rfl (by decide) inX12 w_1237 dX12_holdsLine_60, s_mo_getf _ _ _⟩, (List.forall_mem_cons.mpr ⟨⟨s_ldI dX12_holdsLine_63, s_mo_ldI _ _⟩, (fun _ h => absurd h List.not_mem_nil)⟩)⟩)⟩)⟩)⟩)⟩)⟩)⟩)⟩)⟩)⟩)⟩)⟩)⟩)⟩)⟩)⟩)⟩)⟩)⟩)⟩)⟩)⟩)⟩)⟩)⟩)⟩)⟩)⟩)⟩)⟩)⟩)⟩)⟩)⟩)⟩)⟩)⟩)
set_option maxRecDepth 20000 in
theorem kb_211_1 : ∀ q ∈ tb_211_1, s_atx 211 yX12_holdsLine cX12_holdsLine q.1 q.2 := (List.forall_mem_cons.mpr ⟨⟨s_ldAn dX12_holdsLine_65 rfl, s_mo_ldA _ _⟩, (List.forall_mem_cons.mpr ⟨⟨s_ldI dX12_holdsLine_66, s_mo_ldI _ _⟩, (List.forall_mem_cons.mpr ⟨⟨s_ldAn dX12_holdsLine_68 rfl, s_mo_ldA _ _⟩, (List.forall_mem_cons.mpr ⟨⟨s_getf (ci := 8) (k := 1) rfl (by decide) inX12 w_1222 dX12_holdsLine_69, s_mo_getf _ _ _⟩, (List.forall_mem_cons.mpr ⟨⟨s_sipush dX12_holdsLine_72 (by decide +kernel), s_mo_push _ _⟩, (List.forall_mem_cons.mpr ⟨⟨s_iconst dX12_holdsLine_75 (by decide +kernel), s_mo_push _ _⟩, (List.forall_mem_cons.mpr ⟨⟨s_ldI dX12_holdsLine_76, s_mo_ldI _ _⟩, (List.forall_mem_cons.mpr ⟨⟨s_imul dX12_holdsLine_78, s_mo_bin _ _⟩, (List.forall_mem_cons.mpr ⟨⟨s_iadd dX12_holdsLine_79, s_mo_bin _ _⟩, (List.forall_mem_cons.mpr ⟨⟨s_iconst dX12_holdsLine_80 (by decide +kernel), s_mo_push _ _⟩, (List.forall_mem_cons.mpr ⟨⟨s_iadd dX12_holdsLine_81, s_mo_bin _ _⟩, (List.forall_mem_cons.mpr ⟨⟨s_iald dX12_holdsLine_82, s_mo_iald _⟩, (List.forall_mem_cons.mpr ⟨⟨s_ldIn dX12_holdsLine_83 rfl, s_mo_ldI _ _⟩, (List.forall_mem_cons.mpr ⟨⟨s_ldIn dX12_holdsLine_84 rfl, s_mo_ldI _ _⟩, (List.forall_mem_cons.mpr ⟨⟨s_sV mk_211 mk_210 ok_210 (by decide +kernel) dX12_holdsLine_85 w_1561 w_1563 wp_62 (Or.inr ⟨8, _, _, rfl, rfl⟩), s_h0 mk_211⟩, (List.forall_mem_cons.mpr ⟨⟨s_iast dX12_holdsLine_88, s_mo_iast _⟩, (List.forall_mem_cons.mpr ⟨⟨s_inc dX12_holdsLine_89 (by decide +kernel), s_mo_inc _ _ _⟩, (List.forall_mem_cons.mpr ⟨⟨s_goto dX12_holdsLine_92 (by decide), s_mo_goto _⟩, (List.forall_mem_cons.mpr ⟨⟨s_ldI dX12_holdsLine_95, s_mo_ldI _ _⟩, (List.forall_mem_cons.mpr ⟨⟨s_bipush dX12_holdsLine_97 (by decide +kernel), s_mo_push _ _⟩, (List.forall_mem_cons.mpr ⟨⟨s_icne dX12_holdsLine_99 (by decide), s_mo_icne _ _⟩, (List.forall_mem_cons.mpr ⟨⟨s_ldAn dX12_holdsLine_102 rfl, s_mo_ldA _ _⟩, (List.forall_mem_cons.mpr ⟨⟨s_getf (ci := 8) (k := 16) rfl (by decide) inX12 w_1237 dX12_holdsLine_103, s_mo_getf _ _ _⟩, (List.forall_mem_cons.mpr ⟨⟨s_ldI dX12_holdsLine_106, s_mo_ldI _ _⟩, (List.forall_mem_cons.mpr ⟨⟨s_iconst dX12_holdsLine_108 (by decide +kernel), s_mo_push _ _⟩, (List.forall_mem_cons.mpr ⟨⟨s_isub dX12_holdsLine_109, s_mo_bin _ _⟩, (List.forall_mem_cons.mpr ⟨⟨s_iconst dX12_holdsLine_110 (by decide +kernel), s_mo_push _ _⟩, (List.forall_mem_cons.mpr ⟨⟨s_ldAn dX12_holdsLine_111 rfl, s_mo_ldA _ _⟩, (List.forall_mem_cons.mpr ⟨⟨s_getf (ci := 8) (k := 16) rfl (by decide) inX12 w_1237 dX12_holdsLine_112, s_mo_getf _ _ _⟩, (List.forall_mem_cons.mpr ⟨⟨s_ldI dX12_holdsLine_115, s_mo_ldI _ _⟩, (List.forall_mem_cons.mpr ⟨⟨s_iconst dX12_holdsLine_117 (by decide +kernel), s_mo_push _ _⟩, (List.forall_mem_cons.mpr ⟨⟨s_isub dX12_holdsLine_118, s_mo_bin _ _⟩, (List.forall_mem_cons.mpr ⟨⟨s_iald dX12_holdsLine_119, s_mo_iald _⟩, (List.forall_mem_cons.mpr ⟨⟨s_isub dX12_holdsLine_120, s_mo_bin _ _⟩, (List.forall_mem_cons.mpr ⟨⟨s_iast dX12_holdsLine_121, s_mo_iast _⟩, (List.forall_mem_cons.mpr ⟨⟨s_goto dX12_holdsLine_122 (by decide), s_mo_goto _⟩, (List.forall_mem_cons.mpr ⟨⟨s_inc dX12_holdsLine_125 (by decide +kernel), s_mo_inc _ _ _⟩, (fun _ h => absurd h List.not_mem_nil)⟩)⟩)⟩)⟩)⟩)⟩)⟩)⟩)⟩)⟩)⟩)⟩)⟩)⟩)⟩)⟩)⟩)⟩)⟩)⟩)⟩)⟩)⟩)⟩)⟩)⟩)⟩)⟩)⟩)⟩)⟩)⟩)⟩)⟩)⟩)⟩)⟩)
set_option maxRecDepth 20000 in
theorem kb_211_2 : ∀ q ∈ tb_211_2, s_atx 211 yX12_holdsLine cX12_holdsLine q.1 q.2 := (List.forall_mem_cons.mpr ⟨⟨s_ldAn dX12_holdsLine_128 rfl, s_mo_ldA _ _⟩, (List.forall_mem_cons.mpr ⟨⟨s_getf (ci := 8) (k := 16) rfl (by decide) inX12 w_1237 dX12_holdsLine_129, s_mo_getf _ _ _⟩, (List.forall_mem_cons.mpr ⟨⟨s_ldI dX12_holdsLine_132, s_mo_ldI _ _⟩, (List.forall_mem_cons.mpr ⟨⟨s_iconst dX12_holdsLine_134 (by decide +kernel), s_mo_push _ _⟩, (List.forall_mem_cons.mpr ⟨⟨s_isub dX12_holdsLine_135, s_mo_bin _ _⟩, (List.forall_mem_cons.mpr ⟨⟨s_iald dX12_holdsLine_136, s_mo_iald _⟩, (List.forall_mem_cons.mpr ⟨⟨s_stI dX12_holdsLine_137, s_mo_stI _ _⟩, (List.forall_mem_cons.mpr ⟨⟨s_ldAn dX12_holdsLine_139 rfl, s_mo_ldA _ _⟩, (List.forall_mem_cons.mpr ⟨⟨s_getf (ci := 8) (k := 16) rfl (by decide) inX12 w_1237 dX12_holdsLine_140, s_mo_getf _ _ _⟩, (List.forall_mem_cons.mpr ⟨⟨s_ldI dX12_holdsLine_143, s_mo_ldI _ _⟩, (List.forall_mem_cons.mpr ⟨⟨s_iald dX12_holdsLine_145, s_mo_iald _⟩, (List.forall_mem_cons.mpr ⟨⟨s_stI dX12_holdsLine_146, s_mo_stI _ _⟩, (List.forall_mem_cons.mpr ⟨⟨s_ldI dX12_holdsLine_148, s_mo_ldI _ _⟩, (List.forall_mem_cons.mpr ⟨⟨s_bipush dX12_holdsLine_150 (by decide +kernel), s_mo_push _ _⟩, (List.forall_mem_cons.mpr ⟨⟨s_icne dX12_holdsLine_152 (by decide), s_mo_icne _ _⟩, (List.forall_mem_cons.mpr ⟨⟨s_ldI dX12_holdsLine_155, s_mo_ldI _ _⟩, (List.forall_mem_cons.mpr ⟨⟨s_ldI dX12_holdsLine_157, s_mo_ldI _ _⟩, (List.forall_mem_cons.mpr ⟨⟨s_icge dX12_holdsLine_159 (by decide), s_mo_icge _ _⟩, (List.forall_mem_cons.mpr ⟨⟨s_iconst dX12_holdsLine_162 (by decide +kernel), s_mo_push _ _⟩, (List.forall_mem_cons.mpr ⟨⟨s_goto dX12_holdsLine_163 (by decide), s_mo_goto _⟩, (List.forall_mem_cons.mpr ⟨⟨s_iconst dX12_holdsLine_166 (by decide +kernel), s_mo_push _ _⟩, (List.forall_mem_cons.mpr ⟨⟨s_goto dX12_holdsLine_167 (by decide), s_mo_goto _⟩, (List.forall_mem_cons.mpr ⟨⟨s_ldI dX12_holdsLine_170, s_mo_ldI _ _⟩, (List.forall_mem_cons.mpr ⟨⟨s_bipush dX12_holdsLine_172 (by decide +kernel), s_mo_push _ _⟩, (List.forall_mem_cons.mpr ⟨⟨s_icne dX12_holdsLine_174 (by decide), s_mo_icne _ _⟩, (List.forall_mem_cons.mpr ⟨⟨s_ldI dX12_holdsLine_177, s_mo_ldI _ _⟩, (List.forall_mem_cons.mpr ⟨⟨s_ldI dX12_holdsLine_179, s_mo_ldI _ _⟩, (List.forall_mem_cons.mpr ⟨⟨s_icle dX12_holdsLine_181 (by decide), s_mo_icle _ _⟩, (List.forall_mem_cons.mpr ⟨⟨s_iconst dX12_holdsLine_184 (by decide +kernel), s_mo_push _ _⟩, (List.forall_mem_cons.mpr ⟨⟨s_goto dX12_holdsLine_185 (by decide), s_mo_goto _⟩, (List.forall_mem_cons.mpr ⟨⟨s_iconst dX12_holdsLine_188 (by decide +kernel), s_mo_push _ _⟩, (List.forall_mem_cons.mpr ⟨⟨s_goto dX12_holdsLine_189 (by decide), s_mo_goto _⟩, (fun _ h => absurd h List.not_mem_nil)⟩)⟩)⟩)⟩)⟩)⟩)⟩)⟩)⟩)⟩)⟩)⟩)⟩)⟩)⟩)⟩)⟩)⟩)⟩)⟩)⟩)⟩)⟩)⟩)⟩)⟩)⟩)⟩)⟩)⟩)⟩)⟩)
set_option maxRecDepth 20000 in
theorem kb_211_3 : ∀ q ∈ tb_211_3, s_atx 211 yX12_holdsLine cX12_holdsLine q.1 q.2 := (List.forall_mem_cons.mpr ⟨⟨s_ldI dX12_holdsLine_192, s_mo_ldI _ _⟩, (List.forall_mem_cons.mpr ⟨⟨s_bipush dX12_holdsLine_194 (by decide +kernel), s_mo_push _ _⟩, (List.forall_mem_cons.mpr ⟨⟨s_icne dX12_holdsLine_196 (by decide), s_mo_icne _ _⟩, (List.forall_mem_cons.mpr ⟨⟨s_ldI dX12_holdsLine_199, s_mo_ldI _ _⟩, (List.forall_mem_cons.mpr ⟨⟨s_ldI dX12_holdsLine_201, s_mo_ldI _ _⟩, (List.forall_mem_cons.mpr ⟨⟨s_iadd dX12_holdsLine_203, s_mo_bin _ _⟩, (List.forall_mem_cons.mpr ⟨⟨s_iconst dX12_holdsLine_204 (by decide +kernel), s_mo_push _ _⟩, (List.forall_mem_cons.mpr ⟨⟨s_icne dX12_holdsLine_205 (by decide), s_mo_icne _ _⟩, (List.forall_mem_cons.mpr ⟨⟨s_iconst dX12_holdsLine_208 (by decide +kernel), s_mo_push _ _⟩, (List.forall_mem_cons.mpr ⟨⟨s_goto dX12_holdsLine_209 (by decide), s_mo_goto _⟩, (List.forall_mem_cons.mpr ⟨⟨s_iconst dX12_holdsLine_212 (by decide +kernel), s_mo_push _ _⟩, (List.forall_mem_cons.mpr ⟨⟨s_goto dX12_holdsLine_213 (by decide), s_mo_goto _⟩, (List.forall_mem_cons.mpr ⟨⟨s_ldI dX12_holdsLine_216, s_mo_ldI _ _⟩, (List.forall_mem_cons.mpr ⟨⟨s_ldI dX12_holdsLine_218, s_mo_ldI _ _⟩, (List.forall_mem_cons.mpr ⟨⟨s_iadd dX12_holdsLine_220, s_mo_bin _ _⟩, (List.forall_mem_cons.mpr ⟨⟨s_ifle dX12_holdsLine_221 (by decide), s_mo_ifle _ _⟩, (List.forall_mem_cons.mpr ⟨⟨s_iconst dX12_holdsLine_224 (by decide +kernel), s_mo_push _ _⟩, (List.forall_mem_cons.mpr ⟨⟨s_goto dX12_holdsLine_225 (by decide), s_mo_goto _⟩, (List.forall_mem_cons.mpr ⟨⟨s_iconst dX12_holdsLine_228 (by decide +kernel), s_mo_push _ _⟩, (List.forall_mem_cons.mpr ⟨⟨s_stI dX12_holdsLine_229, s_mo_stI _ _⟩, (List.forall_mem_cons.mpr ⟨⟨s_ldAn dX12_holdsLine_231 rfl, s_mo_ldA _ _⟩, (List.forall_mem_cons.mpr ⟨⟨s_getf (ci := 8) (k := 16) rfl (by decide) inX12 w_1237 dX12_holdsLine_232, s_mo_getf _ _ _⟩, (List.forall_mem_cons.mpr ⟨⟨s_ldI dX12_holdsLine_235, s_mo_ldI _ _⟩, (List.forall_mem_cons.mpr ⟨⟨s_iconst dX12_holdsLine_237 (by decide +kernel), s_mo_push _ _⟩, (List.forall_mem_cons.mpr ⟨⟨s_isub dX12_holdsLine_238, s_mo_bin _ _⟩, (List.forall_mem_cons.mpr ⟨⟨s_ldI dX12_holdsLine_239, s_mo_ldI _ _⟩, (List.forall_mem_cons.mpr ⟨⟨s_bipush dX12_holdsLine_241 (by decide +kernel), s_mo_push _ _⟩, (List.forall_mem_cons.mpr ⟨⟨s_icne dX12_holdsLine_243 (by decide), s_mo_icne _ _⟩, (List.forall_mem_cons.mpr ⟨⟨s_ldI dX12_holdsLine_246, s_mo_ldI _ _⟩, (List.forall_mem_cons.mpr ⟨⟨s_ldI dX12_holdsLine_248, s_mo_ldI _ _⟩, (List.forall_mem_cons.mpr ⟨⟨s_iadd dX12_holdsLine_250, s_mo_bin _ _⟩, (List.forall_mem_cons.mpr ⟨⟨s_goto dX12_holdsLine_251 (by decide), s_mo_goto _⟩, (List.forall_mem_cons.mpr ⟨⟨s_ldI dX12_holdsLine_254, s_mo_ldI _ _⟩, (fun _ h => absurd h List.not_mem_nil)⟩)⟩)⟩)⟩)⟩)⟩)⟩)⟩)⟩)⟩)⟩)⟩)⟩)⟩)⟩)⟩)⟩)⟩)⟩)⟩)⟩)⟩)⟩)⟩)⟩)⟩)⟩)⟩)⟩)⟩)⟩)⟩)⟩)
set_option maxRecDepth 20000 in
theorem kb_211_4 : ∀ q ∈ tb_211_4, s_atx 211 yX12_holdsLine cX12_holdsLine q.1 q.2 := (List.forall_mem_cons.mpr ⟨⟨s_ifeq dX12_holdsLine_256 (by decide), s_mo_ifeq _ _⟩, (List.forall_mem_cons.mpr ⟨⟨s_iconst dX12_holdsLine_259 (by decide +kernel), s_mo_push _ _⟩, (List.forall_mem_cons.mpr ⟨⟨s_goto dX12_holdsLine_260 (by decide), s_mo_goto _⟩, (List.forall_mem_cons.mpr ⟨⟨s_iconst dX12_holdsLine_263 (by decide +kernel), s_mo_push _ _⟩, (List.forall_mem_cons.mpr ⟨⟨s_iast dX12_holdsLine_264, s_mo_iast _⟩, (List.forall_mem_cons.mpr ⟨⟨s_inc dX12_holdsLine_265 (by decide +kernel), s_mo_inc _ _ _⟩, (List.forall_mem_cons.mpr ⟨⟨s_goto dX12_holdsLine_268 (by decide), s_mo_goto _⟩, (List.forall_mem_cons.mpr ⟨⟨s_ldI dX12_holdsLine_271, s_mo_ldI _ _⟩, (List.forall_mem_cons.mpr ⟨⟨s_ifeq dX12_holdsLine_273 (by decide), s_mo_ifeq _ _⟩, (List.forall_mem_cons.mpr ⟨⟨s_ldAn dX12_holdsLine_276 rfl, s_mo_ldA _ _⟩, (List.forall_mem_cons.mpr ⟨⟨s_getf (ci := 8) (k := 16) rfl (by decide) inX12 w_1237 dX12_holdsLine_277, s_mo_getf _ _ _⟩, (List.forall_mem_cons.mpr ⟨⟨s_iconst dX12_holdsLine_280 (by decide +kernel), s_mo_push _ _⟩, (List.forall_mem_cons.mpr ⟨⟨s_iald dX12_holdsLine_281, s_mo_iald _⟩, (List.forall_mem_cons.mpr ⟨⟨s_iconst dX12_holdsLine_282 (by decide +kernel), s_mo_push _ _⟩, (List.forall_mem_cons.mpr ⟨⟨s_icne dX12_holdsLine_283 (by decide), s_mo_icne _ _⟩, (List.forall_mem_cons.mpr ⟨⟨s_iconst dX12_holdsLine_286 (by decide +kernel), s_mo_push _ _⟩, (List.forall_mem_cons.mpr ⟨⟨s_goto dX12_holdsLine_287 (by decide), s_mo_goto _⟩, (List.forall_mem_cons.mpr ⟨⟨s_iconst dX12_holdsLine_290 (by decide +kernel), s_mo_push _ _⟩, (List.forall_mem_cons.mpr ⟨s_r2 mk_211 dX12_holdsLine_291, (fun _ h => absurd h List.not_mem_nil)⟩)⟩)⟩)⟩)⟩)⟩)⟩)⟩)⟩)⟩)⟩)⟩)⟩)⟩)⟩)⟩)⟩)⟩)⟩)
theorem km_211 : ∀ t ∈ tm_211, s_tok 211 t := (List.forall_mem_cons.mpr ⟨s_lift mk_211 kb_211_0, (List.forall_mem_cons.mpr ⟨s_lift mk_211 kb_211_1, (List.forall_mem_cons.mpr ⟨s_lift mk_211 kb_211_2, (List.forall_mem_cons.mpr ⟨s_lift mk_211 kb_211_3, (List.forall_mem_cons.mpr ⟨s_lift mk_211 kb_211_4, (fun _ h => absurd h List.not_mem_nil)⟩)⟩)⟩)⟩)⟩)
theorem dX12_lines_0 : decode cX12_lines 0 = .ok (.aload_n 0, 1) := by decide +kernel
theorem dX12_lines_1 : decode cX12_lines 1 = .ok (.getfield 13, 3) := by decide +kernel
theorem dX12_lines_4 : decode cX12_lines 4 = .ok (.iconst 4, 1) := by decide +kernel
theorem dX12_lines_5 : decode cX12_lines 5 = .ok (.iaload, 1) := by decide +kernel
theorem dX12_lines_6 : decode cX12_lines 6 = .ok (.iconst 1, 1) := by decide +kernel
theorem dX12_lines_7 : decode cX12_lines 7 = .ok (.if_icmp .ne 14, 3) := by decide +kernel
theorem dX12_lines_10 : decode cX12_lines 10 = .ok (.aload_n 0, 1) := by decide +kernel
theorem dX12_lines_11 : decode cX12_lines 11 = .ok (.getfield 13, 3) := by decide +kernel
theorem dX12_lines_14 : decode cX12_lines 14 = .ok (.sipush 427, 3) := by decide +kernel
theorem dX12_lines_17 : decode cX12_lines 17 = .ok (.iaload, 1) := by decide +kernel
theorem dX12_lines_18 : decode cX12_lines 18 = .ok (.goto 4, 3) := by decide +kernel
theorem dX12_lines_21 : decode cX12_lines 21 = .ok (.iconst 0, 1) := by decide +kernel
theorem dX12_lines_22 : decode cX12_lines 22 = .ok (.ireturn, 1) := by decide +kernel
set_option maxRecDepth 20000 in
theorem kb_212_0 : ∀ q ∈ tb_212_0, s_atx 212 yX12_lines cX12_lines q.1 q.2 := (List.forall_mem_cons.mpr ⟨⟨s_ldAn dX12_lines_0 rfl, s_mo_ldA _ _⟩, (List.forall_mem_cons.mpr ⟨⟨s_getf (ci := 8) (k := 1) rfl (by decide) inX12 w_1222 dX12_lines_1, s_mo_getf _ _ _⟩, (List.forall_mem_cons.mpr ⟨⟨s_iconst dX12_lines_4 (by decide +kernel), s_mo_push _ _⟩, (List.forall_mem_cons.mpr ⟨⟨s_iald dX12_lines_5, s_mo_iald _⟩, (List.forall_mem_cons.mpr ⟨⟨s_iconst dX12_lines_6 (by decide +kernel), s_mo_push _ _⟩, (List.forall_mem_cons.mpr ⟨⟨s_icne dX12_lines_7 (by decide), s_mo_icne _ _⟩, (List.forall_mem_cons.mpr ⟨⟨s_ldAn dX12_lines_10 rfl, s_mo_ldA _ _⟩, (List.forall_mem_cons.mpr ⟨⟨s_getf (ci := 8) (k := 1) rfl (by decide) inX12 w_1222 dX12_lines_11, s_mo_getf _ _ _⟩, (List.forall_mem_cons.mpr ⟨⟨s_sipush dX12_lines_14 (by decide +kernel), s_mo_push _ _⟩, (List.forall_mem_cons.mpr ⟨⟨s_iald dX12_lines_17, s_mo_iald _⟩, (List.forall_mem_cons.mpr ⟨⟨s_goto dX12_lines_18 (by decide), s_mo_goto _⟩, (List.forall_mem_cons.mpr ⟨⟨s_iconst dX12_lines_21 (by decide +kernel), s_mo_push _ _⟩, (List.forall_mem_cons.mpr ⟨s_r1 mk_212 dX12_lines_22, (fun _ h => absurd h List.not_mem_nil)⟩)⟩)⟩)⟩)⟩)⟩)⟩)⟩)⟩)⟩)⟩)⟩)⟩)
theorem km_212 : ∀ t ∈ tm_212, s_tok 212 t := (List.forall_mem_cons.mpr ⟨s_lift mk_212 kb_212_0, (fun _ h => absurd h List.not_mem_nil)⟩)
theorem dX12_isSeen_0 : decode cX12_isSeen 0 = .ok (.iconst 0, 1) := by decide +kernel
theorem dX12_isSeen_1 : decode cX12_isSeen 1 = .ok (.istore_n 3, 1) := by decide +kernel
theorem dX12_isSeen_2 : decode cX12_isSeen 2 = .ok (.iload_n 3, 1) := by decide +kernel
theorem dX12_isSeen_3 : decode cX12_isSeen 3 = .ok (.aload_n 0, 1) := by decide +kernel
theorem dX12_isSeen_4 : decode cX12_isSeen 4 = .ok (.invokevirtual 289, 3) := by decide +kernel
theorem dX12_isSeen_7 : decode cX12_isSeen 7 = .ok (.if_icmp .ge 57, 3) := by decide +kernel
theorem dX12_isSeen_10 : decode cX12_isSeen 10 = .ok (.aload_n 0, 1) := by decide +kernel
theorem dX12_isSeen_11 : decode cX12_isSeen 11 = .ok (.getfield 13, 3) := by decide +kernel
theorem dX12_isSeen_14 : decode cX12_isSeen 14 = .ok (.sipush 428, 3) := by decide +kernel
theorem dX12_isSeen_17 : decode cX12_isSeen 17 = .ok (.iconst 3, 1) := by decide +kernel
theorem dX12_isSeen_18 : decode cX12_isSeen 18 = .ok (.iload_n 3, 1) := by decide +kernel
theorem dX12_isSeen_19 : decode cX12_isSeen 19 = .ok (.imul, 1) := by decide +kernel
theorem dX12_isSeen_20 : decode cX12_isSeen 20 = .ok (.iadd, 1) := by decide +kernel
theorem dX12_isSeen_21 : decode cX12_isSeen 21 = .ok (.iaload, 1) := by decide +kernel
theorem dX12_isSeen_22 : decode cX12_isSeen 22 = .ok (.ifCond .ge 36, 3) := by decide +kernel
theorem dX12_isSeen_25 : decode cX12_isSeen 25 = .ok (.aload_n 0, 1) := by decide +kernel
theorem dX12_isSeen_26 : decode cX12_isSeen 26 = .ok (.iload_n 3, 1) := by decide +kernel
theorem dX12_isSeen_27 : decode cX12_isSeen 27 = .ok (.iload_n 1, 1) := by decide +kernel
theorem dX12_isSeen_28 : decode cX12_isSeen 28 = .ok (.iload_n 2, 1) := by decide +kernel
theorem dX12_isSeen_29 : decode cX12_isSeen 29 = .ok (.invokevirtual 292, 3) := by decide +kernel
theorem dX12_isSeen_32 : decode cX12_isSeen 32 = .ok (.ifCond .eq 26, 3) := by decide +kernel
theorem dX12_isSeen_35 : decode cX12_isSeen 35 = .ok (.aload_n 0, 1) := by decide +kernel
theorem dX12_isSeen_36 : decode cX12_isSeen 36 = .ok (.getfield 13, 3) := by decide +kernel
theorem dX12_isSeen_39 : decode cX12_isSeen 39 = .ok (.sipush 428, 3) := by decide +kernel
theorem dX12_isSeen_42 : decode cX12_isSeen 42 = .ok (.iconst 3, 1) := by decide +kernel
theorem dX12_isSeen_43 : decode cX12_isSeen 43 = .ok (.iload_n 3, 1) := by decide +kernel
theorem dX12_isSeen_44 : decode cX12_isSeen 44 = .ok (.imul, 1) := by decide +kernel
theorem dX12_isSeen_45 : decode cX12_isSeen 45 = .ok (.iadd, 1) := by decide +kernel
theorem dX12_isSeen_46 : decode cX12_isSeen 46 = .ok (.iaload, 1) := by decide +kernel
theorem dX12_isSeen_47 : decode cX12_isSeen 47 = .ok (.bipush (-2), 2) := by decide +kernel
theorem dX12_isSeen_49 : decode cX12_isSeen 49 = .ok (.if_icmp .ne 7, 3) := by decide +kernel
theorem dX12_isSeen_52 : decode cX12_isSeen 52 = .ok (.iconst 1, 1) := by decide +kernel
theorem dX12_isSeen_53 : decode cX12_isSeen 53 = .ok (.goto 4, 3) := by decide +kernel
theorem dX12_isSeen_56 : decode cX12_isSeen 56 = .ok (.iconst 0, 1) := by decide +kernel
theorem dX12_isSeen_57 : decode cX12_isSeen 57 = .ok (.ireturn, 1) := by decide +kernel
theorem dX12_isSeen_58 : decode cX12_isSeen 58 = .ok (.iinc 3 1, 3) := by decide +kernel
theorem dX12_isSeen_61 : decode cX12_isSeen 61 = .ok (.goto (-59), 3) := by decide +kernel
theorem dX12_isSeen_64 : decode cX12_isSeen 64 = .ok (.aload_n 0, 1) := by decide +kernel
theorem dX12_isSeen_65 : decode cX12_isSeen 65 = .ok (.iload_n 1, 1) := by decide +kernel
theorem dX12_isSeen_66 : decode cX12_isSeen 66 = .ok (.iload_n 2, 1) := by decide +kernel
theorem dX12_isSeen_67 : decode cX12_isSeen 67 = .ok (.invokevirtual 282, 3) := by decide +kernel
theorem dX12_isSeen_70 : decode cX12_isSeen 70 = .ok (.bipush 20, 2) := by decide +kernel
theorem dX12_isSeen_72 : decode cX12_isSeen 72 = .ok (.if_icmp .le 7, 3) := by decide +kernel
theorem dX12_isSeen_75 : decode cX12_isSeen 75 = .ok (.iconst 1, 1) := by decide +kernel
theorem dX12_isSeen_76 : decode cX12_isSeen 76 = .ok (.goto 4, 3) := by decide +kernel
theorem dX12_isSeen_79 : decode cX12_isSeen 79 = .ok (.iconst 0, 1) := by decide +kernel
theorem dX12_isSeen_80 : decode cX12_isSeen 80 = .ok (.ireturn, 1) := by decide +kernel
set_option maxRecDepth 20000 in
theorem kb_213_0 : ∀ q ∈ tb_213_0, s_atx 213 yX12_isSeen cX12_isSeen q.1 q.2 := (List.forall_mem_cons.mpr ⟨⟨s_iconst dX12_isSeen_0 (by decide +kernel), s_mo_push _ _⟩, (List.forall_mem_cons.mpr ⟨⟨s_stIn dX12_isSeen_1 rfl, s_mo_stI _ _⟩, (List.forall_mem_cons.mpr ⟨⟨s_ldIn dX12_isSeen_2 rfl, s_mo_ldI _ _⟩, (List.forall_mem_cons.mpr ⟨⟨s_ldAn dX12_isSeen_3 rfl, s_mo_ldA _ _⟩, (List.forall_mem_cons.mpr ⟨⟨s_sV mk_213 mk_212 ok_212 (by decide +kernel) dX12_isSeen_4 w_1553 w_1555 wp_60 (Or.inr ⟨8, _, _, rfl, rfl⟩), s_h0 mk_213⟩, (List.forall_mem_cons.mpr ⟨⟨s_icge dX12_isSeen_7 (by decide), s_mo_icge _ _⟩, (List.forall_mem_cons.mpr ⟨⟨s_ldAn dX12_isSeen_10 rfl, s_mo_ldA _ _⟩, (List.forall_mem_cons.mpr ⟨⟨s_getf (ci := 8) (k := 1) rfl (by decide) inX12 w_1222 dX12_isSeen_11, s_mo_getf _ _ _⟩, (List.forall_mem_cons.mpr ⟨⟨s_sipush dX12_isSeen_14 (by decide +kernel), s_mo_push _ _⟩, (List.forall_mem_cons.mpr ⟨⟨s_iconst dX12_isSeen_17 (by decide +kernel), s_mo_push _ _⟩, (List.forall_mem_cons.mpr ⟨⟨s_ldIn dX12_isSeen_18 rfl, s_mo_ldI _ _⟩, (List.forall_mem_cons.mpr ⟨⟨s_imul dX12_isSeen_19, s_mo_bin _ _⟩, (List.forall_mem_cons.mpr ⟨⟨s_iadd dX12_isSeen_20, s_mo_bin _ _⟩, (List.forall_mem_cons.mpr ⟨⟨s_iald dX12_isSeen_21, s_mo_iald _⟩, (List.forall_mem_cons.mpr ⟨⟨s_ifge dX12_isSeen_22 (by decide), s_mo_ifge _ _⟩, (List.forall_mem_cons.mpr ⟨⟨s_ldAn dX12_isSeen_25 rfl, s_mo_ldA _ _⟩, (List.forall_mem_cons.mpr ⟨⟨s_ldIn dX12_isSeen_26 rfl, s_mo_ldI _ _⟩, (List.forall_mem_cons.mpr ⟨⟨s_ldIn dX12_isSeen_27 rfl, s_mo_ldI _ _⟩, (List.forall_mem_cons.mpr ⟨⟨s_ldIn dX12_isSeen_28 rfl, s_mo_ldI _ _⟩, (List.forall_mem_cons.mpr ⟨⟨s_sV mk_213 mk_211 ok_211 (by decide +kernel) dX12_isSeen_29 w_1557 w_1559 wp_61 (Or.inr ⟨8, _, _, rfl, rfl⟩), s_h0 mk_213⟩, (List.forall_mem_cons.mpr ⟨⟨s_ifeq dX12_isSeen_32 (by decide), s_mo_ifeq _ _⟩, (List.forall_mem_cons.mpr ⟨⟨s_ldAn dX12_isSeen_35 rfl, s_mo_ldA _ _⟩, (List.forall_mem_cons.mpr ⟨⟨s_getf (ci := 8) (k := 1) rfl (by decide) inX12 w_1222 dX12_isSeen_36, s_mo_getf _ _ _⟩, (List.forall_mem_cons.mpr ⟨⟨s_sipush dX12_isSeen_39 (by decide +kernel), s_mo_push _ _⟩, (List.forall_mem_cons.mpr ⟨⟨s_iconst dX12_isSeen_42 (by decide +kernel), s_mo_push _ _⟩, (List.forall_mem_cons.mpr ⟨⟨s_ldIn dX12_isSeen_43 rfl, s_mo_ldI _ _⟩, (List.forall_mem_cons.mpr ⟨⟨s_imul dX12_isSeen_44, s_mo_bin _ _⟩, (List.forall_mem_cons.mpr ⟨⟨s_iadd dX12_isSeen_45, s_mo_bin _ _⟩, (List.forall_mem_cons.mpr ⟨⟨s_iald dX12_isSeen_46, s_mo_iald _⟩, (List.forall_mem_cons.mpr ⟨⟨s_bipush dX12_isSeen_47 (by decide +kernel), s_mo_push _ _⟩, (List.forall_mem_cons.mpr ⟨⟨s_icne dX12_isSeen_49 (by decide), s_mo_icne _ _⟩, (List.forall_mem_cons.mpr ⟨⟨s_iconst dX12_isSeen_52 (by decide +kernel), s_mo_push _ _⟩, (List.forall_mem_cons.mpr ⟨⟨s_goto dX12_isSeen_53 (by decide), s_mo_goto _⟩, (List.forall_mem_cons.mpr ⟨⟨s_iconst dX12_isSeen_56 (by decide +kernel), s_mo_push _ _⟩, (List.forall_mem_cons.mpr ⟨s_r2 mk_213 dX12_isSeen_57, (List.forall_mem_cons.mpr ⟨⟨s_inc dX12_isSeen_58 (by decide +kernel), s_mo_inc _ _ _⟩, (List.forall_mem_cons.mpr ⟨⟨s_goto dX12_isSeen_61 (by decide), s_mo_goto _⟩, (fun _ h => absurd h List.not_mem_nil)⟩)⟩)⟩)⟩)⟩)⟩)⟩)⟩)⟩)⟩)⟩)⟩)⟩)⟩)⟩)⟩)⟩)⟩)⟩)⟩)⟩)⟩)⟩)⟩)⟩)⟩)⟩)⟩)⟩)⟩)⟩)⟩)⟩)⟩)⟩)⟩)⟩)
set_option maxRecDepth 20000 in
theorem kb_213_1 : ∀ q ∈ tb_213_1, s_atx 213 yX12_isSeen cX12_isSeen q.1 q.2 := (List.forall_mem_cons.mpr ⟨⟨s_ldAn dX12_isSeen_64 rfl, s_mo_ldA _ _⟩, (List.forall_mem_cons.mpr ⟨⟨s_ldIn dX12_isSeen_65 rfl, s_mo_ldI _ _⟩, (List.forall_mem_cons.mpr ⟨⟨s_ldIn dX12_isSeen_66 rfl, s_mo_ldI _ _⟩, (List.forall_mem_cons.mpr ⟨⟨s_sV mk_213 mk_207 ok_207 (by decide +kernel) dX12_isSeen_67 w_1537 w_1539 wp_58 (Or.inr ⟨8, _, _, rfl, rfl⟩), s_h0 mk_213⟩, (List.forall_mem_cons.mpr ⟨⟨s_bipush dX12_isSeen_70 (by decide +kernel), s_mo_push _ _⟩, (List.forall_mem_cons.mpr ⟨⟨s_icle dX12_isSeen_72 (by decide), s_mo_icle _ _⟩, (List.forall_mem_cons.mpr ⟨⟨s_iconst dX12_isSeen_75 (by decide +kernel), s_mo_push _ _⟩, (List.forall_mem_cons.mpr ⟨⟨s_goto dX12_isSeen_76 (by decide), s_mo_goto _⟩, (List.forall_mem_cons.mpr ⟨⟨s_iconst dX12_isSeen_79 (by decide +kernel), s_mo_push _ _⟩, (List.forall_mem_cons.mpr ⟨s_r2 mk_213 dX12_isSeen_80, (fun _ h => absurd h List.not_mem_nil)⟩)⟩)⟩)⟩)⟩)⟩)⟩)⟩)⟩)⟩)
theorem km_213 : ∀ t ∈ tm_213, s_tok 213 t := (List.forall_mem_cons.mpr ⟨s_lift mk_213 kb_213_0, (List.forall_mem_cons.mpr ⟨s_lift mk_213 kb_213_1, (fun _ h => absurd h List.not_mem_nil)⟩)⟩)
theorem dX12_seen_0 : decode cX12_seen 0 = .ok (.aload_n 0, 1) := by decide +kernel
theorem dX12_seen_1 : decode cX12_seen 1 = .ok (.iconst 0, 1) := by decide +kernel
theorem dX12_seen_2 : decode cX12_seen 2 = .ok (.putfield 3, 3) := by decide +kernel
theorem dX12_seen_5 : decode cX12_seen 5 = .ok (.aload_n 0, 1) := by decide +kernel
theorem dX12_seen_6 : decode cX12_seen 6 = .ok (.aload_n 0, 1) := by decide +kernel
theorem dX12_seen_7 : decode cX12_seen 7 = .ok (.iload_n 1, 1) := by decide +kernel
theorem dX12_seen_8 : decode cX12_seen 8 = .ok (.invokevirtual 264, 3) := by decide +kernel
theorem dX12_seen_11 : decode cX12_seen 11 = .ok (.ifCond .ne 10, 3) := by decide +kernel
theorem dX12_seen_14 : decode cX12_seen 14 = .ok (.iload_n 2, 1) := by decide +kernel
theorem dX12_seen_15 : decode cX12_seen 15 = .ok (.invokestatic 270, 3) := by decide +kernel
theorem dX12_seen_18 : decode cX12_seen 18 = .ok (.ifCond .eq 7, 3) := by decide +kernel
theorem dX12_seen_21 : decode cX12_seen 21 = .ok (.iconst 1, 1) := by decide +kernel
theorem dX12_seen_22 : decode cX12_seen 22 = .ok (.goto 4, 3) := by decide +kernel
theorem dX12_seen_25 : decode cX12_seen 25 = .ok (.iconst 0, 1) := by decide +kernel
theorem dX12_seen_26 : decode cX12_seen 26 = .ok (.iconst 1, 1) := by decide +kernel
theorem dX12_seen_27 : decode cX12_seen 27 = .ok (.invokevirtual 234, 3) := by decide +kernel
theorem dX12_seen_30 : decode cX12_seen 30 = .ok (.ifCond .ne 16, 3) := by decide +kernel
theorem dX12_seen_33 : decode cX12_seen 33 = .ok (.aload_n 0, 1) := by decide +kernel
theorem dX12_seen_34 : decode cX12_seen 34 = .ok (.iload_n 1, 1) := by decide +kernel
theorem dX12_seen_35 : decode cX12_seen 35 = .ok (.iload_n 2, 1) := by decide +kernel
theorem dX12_seen_36 : decode cX12_seen 36 = .ok (.invokevirtual 295, 3) := by decide +kernel
theorem dX12_seen_39 : decode cX12_seen 39 = .ok (.ifCond .eq 7, 3) := by decide +kernel
theorem dX12_seen_42 : decode cX12_seen 42 = .ok (.iconst 1, 1) := by decide +kernel
theorem dX12_seen_43 : decode cX12_seen 43 = .ok (.goto 4, 3) := by decide +kernel
theorem dX12_seen_46 : decode cX12_seen 46 = .ok (.iconst 0, 1) := by decide +kernel
theorem dX12_seen_47 : decode cX12_seen 47 = .ok (.ireturn, 1) := by decide +kernel
set_option maxRecDepth 20000 in
theorem kb_214_0 : ∀ q ∈ tb_214_0, s_atx 214 yX12_seen cX12_seen q.1 q.2 := (List.forall_mem_cons.mpr ⟨⟨s_ldAn dX12_seen_0 rfl, s_mo_ldA _ _⟩, (List.forall_mem_cons.mpr ⟨⟨s_iconst dX12_seen_1 (by decide +kernel), s_mo_push _ _⟩, (List.forall_mem_cons.mpr ⟨⟨s_putI (ci := 8) (k := 0) rfl (by decide) inX12 tyX12_ok nmX12 rfl rfl w_1221 dX12_seen_2, s_mo_putI _ _ _⟩, (List.forall_mem_cons.mpr ⟨⟨s_ldAn dX12_seen_5 rfl, s_mo_ldA _ _⟩, (List.forall_mem_cons.mpr ⟨⟨s_ldAn dX12_seen_6 rfl, s_mo_ldA _ _⟩, (List.forall_mem_cons.mpr ⟨⟨s_ldIn dX12_seen_7 rfl, s_mo_ldI _ _⟩, (List.forall_mem_cons.mpr ⟨⟨s_sV mk_214 mk_160 ok_160 (by decide +kernel) dX12_seen_8 w_1450 w_1452 wp_48 (Or.inr ⟨8, _, _, rfl, rfl⟩), s_h0 mk_214⟩, (List.forall_mem_cons.mpr ⟨⟨s_ifne dX12_seen_11 (by decide), s_mo_ifne _ _⟩, (List.forall_mem_cons.mpr ⟨⟨s_ldIn dX12_seen_14 rfl, s_mo_ldI _ _⟩, (List.forall_mem_cons.mpr ⟨⟨s_sS mk_214 mk_161 ok_161 (by decide +kernel) dX12_seen_15 w_1503 w_1504, s_h0 mk_214⟩, (List.forall_mem_cons.mpr ⟨⟨s_ifeq dX12_seen_18 (by decide), s_mo_ifeq _ _⟩, (List.forall_mem_cons.mpr ⟨⟨s_iconst dX12_seen_21 (by decide +kernel), s_mo_push _ _⟩, (List.forall_mem_cons.mpr ⟨⟨s_goto dX12_seen_22 (by decide), s_mo_goto _⟩, (List.forall_mem_cons.mpr ⟨⟨s_iconst dX12_seen_25 (by decide +kernel), s_mo_push _ _⟩, (List.forall_mem_cons.mpr ⟨⟨s_iconst dX12_seen_26 (by decide +kernel), s_mo_push _ _⟩, (List.forall_mem_cons.mpr ⟨⟨s_sV mk_214 mk_149 ok_149 (by decide +kernel) dX12_seen_27 w_1438 w_1440 wp_47 (Or.inr ⟨8, _, _, rfl, rfl⟩), s_h0 mk_214⟩, (List.forall_mem_cons.mpr ⟨⟨s_ifne dX12_seen_30 (by decide), s_mo_ifne _ _⟩, (List.forall_mem_cons.mpr ⟨⟨s_ldAn dX12_seen_33 rfl, s_mo_ldA _ _⟩, (List.forall_mem_cons.mpr ⟨⟨s_ldIn dX12_seen_34 rfl, s_mo_ldI _ _⟩, (List.forall_mem_cons.mpr ⟨⟨s_ldIn dX12_seen_35 rfl, s_mo_ldI _ _⟩, (List.forall_mem_cons.mpr ⟨⟨s_sV mk_214 mk_213 ok_213 (by decide +kernel) dX12_seen_36 w_1549 w_1551 wp_59 (Or.inr ⟨8, _, _, rfl, rfl⟩), s_h0 mk_214⟩, (List.forall_mem_cons.mpr ⟨⟨s_ifeq dX12_seen_39 (by decide), s_mo_ifeq _ _⟩, (List.forall_mem_cons.mpr ⟨⟨s_iconst dX12_seen_42 (by decide +kernel), s_mo_push _ _⟩, (List.forall_mem_cons.mpr ⟨⟨s_goto dX12_seen_43 (by decide), s_mo_goto _⟩, (List.forall_mem_cons.mpr ⟨⟨s_iconst dX12_seen_46 (by decide +kernel), s_mo_push _ _⟩, (List.forall_mem_cons.mpr ⟨s_r2 mk_214 dX12_seen_47, (fun _ h => absurd h List.not_mem_nil)⟩)⟩)⟩)⟩)⟩)⟩)⟩)⟩)⟩)⟩)⟩)⟩)⟩)⟩)⟩)⟩)⟩)⟩)⟩)⟩)⟩)⟩)⟩)⟩)⟩)⟩)
theorem km_214 : ∀ t ∈ tm_214, s_tok 214 t := (List.forall_mem_cons.mpr ⟨s_lift mk_214 kb_214_0, (fun _ h => absurd h List.not_mem_nil)⟩)
theorem dX12_fined_0 : decode cX12_fined 0 = .ok (.aload_n 0, 1) := by decide +kernel
theorem dX12_fined_1 : decode cX12_fined 1 = .ok (.iconst 0, 1) := by decide +kernel
theorem dX12_fined_2 : decode cX12_fined 2 = .ok (.putfield 3, 3) := by decide +kernel
theorem dX12_fined_5 : decode cX12_fined 5 = .ok (.aload_n 0, 1) := by decide +kernel
theorem dX12_fined_6 : decode cX12_fined 6 = .ok (.aload_n 0, 1) := by decide +kernel
theorem dX12_fined_7 : decode cX12_fined 7 = .ok (.iload_n 1, 1) := by decide +kernel
theorem dX12_fined_8 : decode cX12_fined 8 = .ok (.invokevirtual 264, 3) := by decide +kernel
theorem dX12_fined_11 : decode cX12_fined 11 = .ok (.ifCond .ne 10, 3) := by decide +kernel
theorem dX12_fined_14 : decode cX12_fined 14 = .ok (.iload_n 2, 1) := by decide +kernel
theorem dX12_fined_15 : decode cX12_fined 15 = .ok (.invokestatic 270, 3) := by decide +kernel
theorem dX12_fined_18 : decode cX12_fined 18 = .ok (.ifCond .eq 7, 3) := by decide +kernel
theorem dX12_fined_21 : decode cX12_fined 21 = .ok (.iconst 1, 1) := by decide +kernel
theorem dX12_fined_22 : decode cX12_fined 22 = .ok (.goto 4, 3) := by decide +kernel
theorem dX12_fined_25 : decode cX12_fined 25 = .ok (.iconst 0, 1) := by decide +kernel
theorem dX12_fined_26 : decode cX12_fined 26 = .ok (.iconst 1, 1) := by decide +kernel
theorem dX12_fined_27 : decode cX12_fined 27 = .ok (.invokevirtual 234, 3) := by decide +kernel
theorem dX12_fined_30 : decode cX12_fined 30 = .ok (.ifCond .ne 12, 3) := by decide +kernel
theorem dX12_fined_33 : decode cX12_fined 33 = .ok (.aload_n 0, 1) := by decide +kernel
theorem dX12_fined_34 : decode cX12_fined 34 = .ok (.iload_n 1, 1) := by decide +kernel
theorem dX12_fined_35 : decode cX12_fined 35 = .ok (.iload_n 2, 1) := by decide +kernel
theorem dX12_fined_36 : decode cX12_fined 36 = .ok (.invokevirtual 295, 3) := by decide +kernel
theorem dX12_fined_39 : decode cX12_fined 39 = .ok (.ifCond .ne 5, 3) := by decide +kernel
theorem dX12_fined_42 : decode cX12_fined 42 = .ok (.iconst 0, 1) := by decide +kernel
theorem dX12_fined_43 : decode cX12_fined 43 = .ok (.ireturn, 1) := by decide +kernel
theorem dX12_fined_44 : decode cX12_fined 44 = .ok (.iconst 0, 1) := by decide +kernel
theorem dX12_fined_45 : decode cX12_fined 45 = .ok (.istore_n 3, 1) := by decide +kernel
theorem dX12_fined_46 : decode cX12_fined 46 = .ok (.iconst 0, 1) := by decide +kernel
theorem dX12_fined_47 : decode cX12_fined 47 = .ok (.istore 4, 2) := by decide +kernel
theorem dX12_fined_49 : decode cX12_fined 49 = .ok (.iload 4, 2) := by decide +kernel
theorem dX12_fined_51 : decode cX12_fined 51 = .ok (.aload_n 0, 1) := by decide +kernel
theorem dX12_fined_52 : decode cX12_fined 52 = .ok (.invokevirtual 289, 3) := by decide +kernel
theorem dX12_fined_55 : decode cX12_fined 55 = .ok (.if_icmp .ge 56, 3) := by decide +kernel
theorem dX12_fined_58 : decode cX12_fined 58 = .ok (.iload_n 3, 1) := by decide +kernel
theorem dX12_fined_59 : decode cX12_fined 59 = .ok (.aload_n 0, 1) := by decide +kernel
theorem dX12_fined_60 : decode cX12_fined 60 = .ok (.getfield 13, 3) := by decide +kernel
theorem dX12_fined_63 : decode cX12_fined 63 = .ok (.sipush 428, 3) := by decide +kernel
theorem dX12_fined_66 : decode cX12_fined 66 = .ok (.iconst 3, 1) := by decide +kernel
theorem dX12_fined_67 : decode cX12_fined 67 = .ok (.iload 4, 2) := by decide +kernel
theorem dX12_fined_69 : decode cX12_fined 69 = .ok (.imul, 1) := by decide +kernel
theorem dX12_fined_70 : decode cX12_fined 70 = .ok (.iadd, 1) := by decide +kernel
theorem dX12_fined_71 : decode cX12_fined 71 = .ok (.iaload, 1) := by decide +kernel
theorem dX12_fined_72 : decode cX12_fined 72 = .ok (.ifCond .le 30, 3) := by decide +kernel
theorem dX12_fined_75 : decode cX12_fined 75 = .ok (.aload_n 0, 1) := by decide +kernel
theorem dX12_fined_76 : decode cX12_fined 76 = .ok (.iload 4, 2) := by decide +kernel
theorem dX12_fined_78 : decode cX12_fined 78 = .ok (.iload_n 1, 1) := by decide +kernel
theorem dX12_fined_79 : decode cX12_fined 79 = .ok (.iload_n 2, 1) := by decide +kernel
theorem dX12_fined_80 : decode cX12_fined 80 = .ok (.invokevirtual 292, 3) := by decide +kernel
theorem dX12_fined_83 : decode cX12_fined 83 = .ok (.ifCond .eq 19, 3) := by decide +kernel
theorem dX12_fined_86 : decode cX12_fined 86 = .ok (.aload_n 0, 1) := by decide +kernel
theorem dX12_fined_87 : decode cX12_fined 87 = .ok (.getfield 13, 3) := by decide +kernel
theorem dX12_fined_90 : decode cX12_fined 90 = .ok (.sipush 428, 3) := by decide +kernel
theorem dX12_fined_93 : decode cX12_fined 93 = .ok (.iconst 3, 1) := by decide +kernel
theorem dX12_fined_94 : decode cX12_fined 94 = .ok (.iload 4, 2) := by decide +kernel
theorem dX12_fined_96 : decode cX12_fined 96 = .ok (.imul, 1) := by decide +kernel
theorem dX12_fined_97 : decode cX12_fined 97 = .ok (.iadd, 1) := by decide +kernel
theorem dX12_fined_98 : decode cX12_fined 98 = .ok (.iaload, 1) := by decide +kernel
theorem dX12_fined_99 : decode cX12_fined 99 = .ok (.goto 4, 3) := by decide +kernel
theorem dX12_fined_102 : decode cX12_fined 102 = .ok (.iconst 0, 1) := by decide +kernel
theorem dX12_fined_103 : decode cX12_fined 103 = .ok (.iadd, 1) := by decide +kernel
theorem dX12_fined_104 : decode cX12_fined 104 = .ok (.istore_n 3, 1) := by decide +kernel
theorem dX12_fined_105 : decode cX12_fined 105 = .ok (.iinc 4 1, 3) := by decide +kernel
theorem dX12_fined_108 : decode cX12_fined 108 = .ok (.goto (-59), 3) := by decide +kernel
theorem dX12_fined_111 : decode cX12_fined 111 = .ok (.iload_n 3, 1) := by decide +kernel
theorem dX12_fined_112 : decode cX12_fined 112 = .ok (.ireturn, 1) := by decide +kernel
set_option maxRecDepth 20000 in
theorem kb_215_0 : ∀ q ∈ tb_215_0, s_atx 215 yX12_fined cX12_fined q.1 q.2 := (List.forall_mem_cons.mpr ⟨⟨s_ldAn dX12_fined_0 rfl, s_mo_ldA _ _⟩, (List.forall_mem_cons.mpr ⟨⟨s_iconst dX12_fined_1 (by decide +kernel), s_mo_push _ _⟩, (List.forall_mem_cons.mpr ⟨⟨s_putI (ci := 8) (k := 0) rfl (by decide) inX12 tyX12_ok nmX12 rfl rfl w_1221 dX12_fined_2, s_mo_putI _ _ _⟩, (List.forall_mem_cons.mpr ⟨⟨s_ldAn dX12_fined_5 rfl, s_mo_ldA _ _⟩, (List.forall_mem_cons.mpr ⟨⟨s_ldAn dX12_fined_6 rfl, s_mo_ldA _ _⟩, (List.forall_mem_cons.mpr ⟨⟨s_ldIn dX12_fined_7 rfl, s_mo_ldI _ _⟩, (List.forall_mem_cons.mpr ⟨⟨s_sV mk_215 mk_160 ok_160 (by decide +kernel) dX12_fined_8 w_1450 w_1452 wp_48 (Or.inr ⟨8, _, _, rfl, rfl⟩), s_h0 mk_215⟩, (List.forall_mem_cons.mpr ⟨⟨s_ifne dX12_fined_11 (by decide), s_mo_ifne _ _⟩, (List.forall_mem_cons.mpr ⟨⟨s_ldIn dX12_fined_14 rfl, s_mo_ldI _ _⟩, (List.forall_mem_cons.mpr ⟨⟨s_sS mk_215 mk_161 ok_161 (by decide +kernel) dX12_fined_15 w_1503 w_1504, s_h0 mk_215⟩, (List.forall_mem_cons.mpr ⟨⟨s_ifeq dX12_fined_18 (by decide), s_mo_ifeq _ _⟩, (List.forall_mem_cons.mpr ⟨⟨s_iconst dX12_fined_21 (by decide +kernel), s_mo_push _ _⟩, (List.forall_mem_cons.mpr ⟨⟨s_goto dX12_fined_22 (by decide), s_mo_goto _⟩, (List.forall_mem_cons.mpr ⟨⟨s_iconst dX12_fined_25 (by decide +kernel), s_mo_push _ _⟩, (List.forall_mem_cons.mpr ⟨⟨s_iconst dX12_fined_26 (by decide +kernel), s_mo_push _ _⟩, (List.forall_mem_cons.mpr ⟨⟨s_sV mk_215 mk_149 ok_149 (by decide +kernel) dX12_fined_27 w_1438 w_1440 wp_47 (Or.inr ⟨8, _, _, rfl, rfl⟩), s_h0 mk_215⟩, (List.forall_mem_cons.mpr ⟨⟨s_ifne dX12_fined_30 (by decide), s_mo_ifne _ _⟩, (List.forall_mem_cons.mpr ⟨⟨s_ldAn dX12_fined_33 rfl, s_mo_ldA _ _⟩, (List.forall_mem_cons.mpr ⟨⟨s_ldIn dX12_fined_34 rfl, s_mo_ldI _ _⟩, (List.forall_mem_cons.mpr ⟨⟨s_ldIn dX12_fined_35 rfl, s_mo_ldI _ _⟩, (List.forall_mem_cons.mpr ⟨⟨s_sV mk_215 mk_213 ok_213 (by decide +kernel) dX12_fined_36 w_1549 w_1551 wp_59 (Or.inr ⟨8, _, _, rfl, rfl⟩), s_h0 mk_215⟩, (List.forall_mem_cons.mpr ⟨⟨s_ifne dX12_fined_39 (by decide), s_mo_ifne _ _⟩, (List.forall_mem_cons.mpr ⟨⟨s_iconst dX12_fined_42 (by decide +kernel), s_mo_push _ _⟩, (List.forall_mem_cons.mpr ⟨s_r1 mk_215 dX12_fined_43, (List.forall_mem_cons.mpr ⟨⟨s_iconst dX12_fined_44 (by decide +kernel), s_mo_push _ _⟩, (List.forall_mem_cons.mpr ⟨⟨s_stIn dX12_fined_45 rfl, s_mo_stI _ _⟩, (List.forall_mem_cons.mpr ⟨⟨s_iconst dX12_fined_46 (by decide +kernel), s_mo_push _ _⟩, (List.forall_mem_cons.mpr ⟨⟨s_stI dX12_fined_47, s_mo_stI _ _⟩, (List.forall_mem_cons.mpr ⟨⟨s_ldI dX12_fined_49, s_mo_ldI _ _⟩, (List.forall_mem_cons.mpr ⟨⟨s_ldAn dX12_fined_51 rfl, s_mo_ldA _ _⟩, (List.forall_mem_cons.mpr ⟨⟨s_sV mk_215 mk_212 ok_212 (by decide +kernel) dX12_fined_52 w_1553 w_1555 wp_60 (Or.inr ⟨8, _, _, rfl, rfl⟩), s_h0 mk_215⟩, (List.forall_mem_cons.mpr ⟨⟨s_icge dX12_fined_55 (by decide), s_mo_icge _ _⟩, (List.forall_mem_cons.mpr ⟨⟨s_ldIn dX12_fined_58 rfl, s_mo_ldI _ _⟩, (List.forall_mem_cons.mpr ⟨⟨s_ldAn dX12_fined_59 rfl, s_mo_ldA _ _⟩, (List.forall_mem_cons.mpr ⟨⟨s_getf (ci := 8) (k := 1) rfl (by decide) inX12 w_1222 dX12_fined_60, s_mo_getf _ _ _⟩, (List.forall_mem_cons.mpr ⟨⟨s_sipush dX12_fined_63 (by decide +kernel), s_mo_push _ _⟩, (fun _ h => absurd h List.not_mem_nil)⟩)⟩)⟩)⟩)⟩)⟩)⟩)⟩)⟩)⟩)⟩)⟩)⟩)⟩)⟩)⟩)⟩)⟩)⟩)⟩)⟩)⟩)⟩)⟩)⟩)⟩)⟩)⟩)⟩)⟩)⟩)⟩)⟩)⟩)⟩)⟩)
set_option maxRecDepth 20000 in
theorem kb_215_1 : ∀ q ∈ tb_215_1, s_atx 215 yX12_fined cX12_fined q.1 q.2 := (List.forall_mem_cons.mpr ⟨⟨s_iconst dX12_fined_66 (by decide +kernel), s_mo_push _ _⟩, (List.forall_mem_cons.mpr ⟨⟨s_ldI dX12_fined_67, s_mo_ldI _ _⟩, (List.forall_mem_cons.mpr ⟨⟨s_imul dX12_fined_69, s_mo_bin _ _⟩, (List.forall_mem_cons.mpr ⟨⟨s_iadd dX12_fined_70, s_mo_bin _ _⟩, (List.forall_mem_cons.mpr ⟨⟨s_iald dX12_fined_71, s_mo_iald _⟩, (List.forall_mem_cons.mpr ⟨⟨s_ifle dX12_fined_72 (by decide), s_mo_ifle _ _⟩, (List.forall_mem_cons.mpr ⟨⟨s_ldAn dX12_fined_75 rfl, s_mo_ldA _ _⟩, (List.forall_mem_cons.mpr ⟨⟨s_ldI dX12_fined_76, s_mo_ldI _ _⟩, (List.forall_mem_cons.mpr ⟨⟨s_ldIn dX12_fined_78 rfl, s_mo_ldI _ _⟩, (List.forall_mem_cons.mpr ⟨⟨s_ldIn dX12_fined_79 rfl, s_mo_ldI _ _⟩, (List.forall_mem_cons.mpr ⟨⟨s_sV mk_215 mk_211 ok_211 (by decide +kernel) dX12_fined_80 w_1557 w_1559 wp_61 (Or.inr ⟨8, _, _, rfl, rfl⟩), s_h0 mk_215⟩, (List.forall_mem_cons.mpr ⟨⟨s_ifeq dX12_fined_83 (by decide), s_mo_ifeq _ _⟩, (List.forall_mem_cons.mpr ⟨⟨s_ldAn dX12_fined_86 rfl, s_mo_ldA _ _⟩, (List.forall_mem_cons.mpr ⟨⟨s_getf (ci := 8) (k := 1) rfl (by decide) inX12 w_1222 dX12_fined_87, s_mo_getf _ _ _⟩, (List.forall_mem_cons.mpr ⟨⟨s_sipush dX12_fined_90 (by decide +kernel), s_mo_push _ _⟩, (List.forall_mem_cons.mpr ⟨⟨s_iconst dX12_fined_93 (by decide +kernel), s_mo_push _ _⟩, (List.forall_mem_cons.mpr ⟨⟨s_ldI dX12_fined_94, s_mo_ldI _ _⟩, (List.forall_mem_cons.mpr ⟨⟨s_imul dX12_fined_96, s_mo_bin _ _⟩, (List.forall_mem_cons.mpr ⟨⟨s_iadd dX12_fined_97, s_mo_bin _ _⟩, (List.forall_mem_cons.mpr ⟨⟨s_iald dX12_fined_98, s_mo_iald _⟩, (List.forall_mem_cons.mpr ⟨⟨s_goto dX12_fined_99 (by decide), s_mo_goto _⟩, (List.forall_mem_cons.mpr ⟨⟨s_iconst dX12_fined_102 (by decide +kernel), s_mo_push _ _⟩, (List.forall_mem_cons.mpr ⟨⟨s_iadd dX12_fined_103, s_mo_bin _ _⟩, (List.forall_mem_cons.mpr ⟨⟨s_stIn dX12_fined_104 rfl, s_mo_stI _ _⟩, (List.forall_mem_cons.mpr ⟨⟨s_inc dX12_fined_105 (by decide +kernel), s_mo_inc _ _ _⟩, (List.forall_mem_cons.mpr ⟨⟨s_goto dX12_fined_108 (by decide), s_mo_goto _⟩, (List.forall_mem_cons.mpr ⟨⟨s_ldIn dX12_fined_111 rfl, s_mo_ldI _ _⟩, (List.forall_mem_cons.mpr ⟨s_r1 mk_215 dX12_fined_112, (fun _ h => absurd h List.not_mem_nil)⟩)⟩)⟩)⟩)⟩)⟩)⟩)⟩)⟩)⟩)⟩)⟩)⟩)⟩)⟩)⟩)⟩)⟩)⟩)⟩)⟩)⟩)⟩)⟩)⟩)⟩)⟩)⟩)
theorem km_215 : ∀ t ∈ tm_215, s_tok 215 t := (List.forall_mem_cons.mpr ⟨s_lift mk_215 kb_215_0, (List.forall_mem_cons.mpr ⟨s_lift mk_215 kb_215_1, (fun _ h => absurd h List.not_mem_nil)⟩)⟩)
theorem dX12_seer_0 : decode cX12_seer 0 = .ok (.aload_n 0, 1) := by decide +kernel
theorem dX12_seer_1 : decode cX12_seer 1 = .ok (.iconst 0, 1) := by decide +kernel
theorem dX12_seer_2 : decode cX12_seer 2 = .ok (.putfield 3, 3) := by decide +kernel
theorem dX12_seer_5 : decode cX12_seer 5 = .ok (.aload_n 0, 1) := by decide +kernel
theorem dX12_seer_6 : decode cX12_seer 6 = .ok (.aload_n 0, 1) := by decide +kernel
theorem dX12_seer_7 : decode cX12_seer 7 = .ok (.getfield 13, 3) := by decide +kernel
theorem dX12_seer_10 : decode cX12_seer 10 = .ok (.iconst 5, 1) := by decide +kernel
theorem dX12_seer_11 : decode cX12_seer 11 = .ok (.iaload, 1) := by decide +kernel
theorem dX12_seer_12 : decode cX12_seer 12 = .ok (.bipush 6, 2) := by decide +kernel
theorem dX12_seer_14 : decode cX12_seer 14 = .ok (.if_icmp .ne 7, 3) := by decide +kernel
theorem dX12_seer_17 : decode cX12_seer 17 = .ok (.iconst 1, 1) := by decide +kernel
theorem dX12_seer_18 : decode cX12_seer 18 = .ok (.goto 4, 3) := by decide +kernel
theorem dX12_seer_21 : decode cX12_seer 21 = .ok (.iconst 0, 1) := by decide +kernel
theorem dX12_seer_22 : decode cX12_seer 22 = .ok (.iconst 1, 1) := by decide +kernel
theorem dX12_seer_23 : decode cX12_seer 23 = .ok (.invokevirtual 234, 3) := by decide +kernel
theorem dX12_seer_26 : decode cX12_seer 26 = .ok (.ifCond .eq 5, 3) := by decide +kernel
theorem dX12_seer_29 : decode cX12_seer 29 = .ok (.iconst 0, 1) := by decide +kernel
theorem dX12_seer_30 : decode cX12_seer 30 = .ok (.ireturn, 1) := by decide +kernel
theorem dX12_seer_31 : decode cX12_seer 31 = .ok (.aload_n 0, 1) := by decide +kernel
theorem dX12_seer_32 : decode cX12_seer 32 = .ok (.getfield 13, 3) := by decide +kernel
theorem dX12_seer_35 : decode cX12_seer 35 = .ok (.iconst 5, 1) := by decide +kernel
theorem dX12_seer_36 : decode cX12_seer 36 = .ok (.dup2, 1) := by decide +kernel
theorem dX12_seer_37 : decode cX12_seer 37 = .ok (.iaload, 1) := by decide +kernel
theorem dX12_seer_38 : decode cX12_seer 38 = .ok (.iconst 1, 1) := by decide +kernel
theorem dX12_seer_39 : decode cX12_seer 39 = .ok (.iadd, 1) := by decide +kernel
theorem dX12_seer_40 : decode cX12_seer 40 = .ok (.iastore, 1) := by decide +kernel
theorem dX12_seer_41 : decode cX12_seer 41 = .ok (.aload_n 0, 1) := by decide +kernel
theorem dX12_seer_42 : decode cX12_seer 42 = .ok (.getfield 13, 3) := by decide +kernel
theorem dX12_seer_45 : decode cX12_seer 45 = .ok (.iconst 5, 1) := by decide +kernel
theorem dX12_seer_46 : decode cX12_seer 46 = .ok (.iaload, 1) := by decide +kernel
theorem dX12_seer_47 : decode cX12_seer 47 = .ok (.iconst 1, 1) := by decide +kernel
theorem dX12_seer_48 : decode cX12_seer 48 = .ok (.isub, 1) := by decide +kernel
theorem dX12_seer_49 : decode cX12_seer 49 = .ok (.ireturn, 1) := by decide +kernel
set_option maxRecDepth 20000 in
theorem kb_216_0 : ∀ q ∈ tb_216_0, s_atx 216 yX12_seer cX12_seer q.1 q.2 := (List.forall_mem_cons.mpr ⟨⟨s_ldAn dX12_seer_0 rfl, s_mo_ldA _ _⟩, (List.forall_mem_cons.mpr ⟨⟨s_iconst dX12_seer_1 (by decide +kernel), s_mo_push _ _⟩, (List.forall_mem_cons.mpr ⟨⟨s_putI (ci := 8) (k := 0) rfl (by decide) inX12 tyX12_ok nmX12 rfl rfl w_1221 dX12_seer_2, s_mo_putI _ _ _⟩, (List.forall_mem_cons.mpr ⟨⟨s_ldAn dX12_seer_5 rfl, s_mo_ldA _ _⟩, (List.forall_mem_cons.mpr ⟨⟨s_ldAn dX12_seer_6 rfl, s_mo_ldA _ _⟩, (List.forall_mem_cons.mpr ⟨⟨s_getf (ci := 8) (k := 1) rfl (by decide) inX12 w_1222 dX12_seer_7, s_mo_getf _ _ _⟩, (List.forall_mem_cons.mpr ⟨⟨s_iconst dX12_seer_10 (by decide +kernel), s_mo_push _ _⟩, (List.forall_mem_cons.mpr ⟨⟨s_iald dX12_seer_11, s_mo_iald _⟩, (List.forall_mem_cons.mpr ⟨⟨s_bipush dX12_seer_12 (by decide +kernel), s_mo_push _ _⟩, (List.forall_mem_cons.mpr ⟨⟨s_icne dX12_seer_14 (by decide), s_mo_icne _ _⟩, (List.forall_mem_cons.mpr ⟨⟨s_iconst dX12_seer_17 (by decide +kernel), s_mo_push _ _⟩, (List.forall_mem_cons.mpr ⟨⟨s_goto dX12_seer_18 (by decide), s_mo_goto _⟩, (List.forall_mem_cons.mpr ⟨⟨s_iconst dX12_seer_21 (by decide +kernel), s_mo_push _ _⟩, (List.forall_mem_cons.mpr ⟨⟨s_iconst dX12_seer_22 (by decide +kernel), s_mo_push _ _⟩, (List.forall_mem_cons.mpr ⟨⟨s_sV mk_216 mk_149 ok_149 (by decide +kernel) dX12_seer_23 w_1438 w_1440 wp_47 (Or.inr ⟨8, _, _, rfl, rfl⟩), s_h0 mk_216⟩, (List.forall_mem_cons.mpr ⟨⟨s_ifeq dX12_seer_26 (by decide), s_mo_ifeq _ _⟩, (List.forall_mem_cons.mpr ⟨⟨s_iconst dX12_seer_29 (by decide +kernel), s_mo_push _ _⟩, (List.forall_mem_cons.mpr ⟨s_r1 mk_216 dX12_seer_30, (List.forall_mem_cons.mpr ⟨⟨s_ldAn dX12_seer_31 rfl, s_mo_ldA _ _⟩, (List.forall_mem_cons.mpr ⟨⟨s_getf (ci := 8) (k := 1) rfl (by decide) inX12 w_1222 dX12_seer_32, s_mo_getf _ _ _⟩, (List.forall_mem_cons.mpr ⟨⟨s_iconst dX12_seer_35 (by decide +kernel), s_mo_push _ _⟩, (List.forall_mem_cons.mpr ⟨⟨s_dup2 dX12_seer_36, s_mo_dup2 _⟩, (List.forall_mem_cons.mpr ⟨⟨s_iald dX12_seer_37, s_mo_iald _⟩, (List.forall_mem_cons.mpr ⟨⟨s_iconst dX12_seer_38 (by decide +kernel), s_mo_push _ _⟩, (List.forall_mem_cons.mpr ⟨⟨s_iadd dX12_seer_39, s_mo_bin _ _⟩, (List.forall_mem_cons.mpr ⟨⟨s_iast dX12_seer_40, s_mo_iast _⟩, (List.forall_mem_cons.mpr ⟨⟨s_ldAn dX12_seer_41 rfl, s_mo_ldA _ _⟩, (List.forall_mem_cons.mpr ⟨⟨s_getf (ci := 8) (k := 1) rfl (by decide) inX12 w_1222 dX12_seer_42, s_mo_getf _ _ _⟩, (List.forall_mem_cons.mpr ⟨⟨s_iconst dX12_seer_45 (by decide +kernel), s_mo_push _ _⟩, (List.forall_mem_cons.mpr ⟨⟨s_iald dX12_seer_46, s_mo_iald _⟩, (List.forall_mem_cons.mpr ⟨⟨s_iconst dX12_seer_47 (by decide +kernel), s_mo_push _ _⟩, (List.forall_mem_cons.mpr ⟨⟨s_isub dX12_seer_48, s_mo_bin _ _⟩, (List.forall_mem_cons.mpr ⟨s_r1 mk_216 dX12_seer_49, (fun _ h => absurd h List.not_mem_nil)⟩)⟩)⟩)⟩)⟩)⟩)⟩)⟩)⟩)⟩)⟩)⟩)⟩)⟩)⟩)⟩)⟩)⟩)⟩)⟩)⟩)⟩)⟩)⟩)⟩)⟩)⟩)⟩)⟩)⟩)⟩)⟩)⟩)
theorem km_216 : ∀ t ∈ tm_216, s_tok 216 t := (List.forall_mem_cons.mpr ⟨s_lift mk_216 kb_216_0, (fun _ h => absurd h List.not_mem_nil)⟩)
theorem dX12_noSeer_0 : decode cX12_noSeer 0 = .ok (.iload_n 1, 1) := by decide +kernel
theorem dX12_noSeer_1 : decode cX12_noSeer 1 = .ok (.iconst 0, 1) := by decide +kernel
theorem dX12_noSeer_2 : decode cX12_noSeer 2 = .ok (.aload_n 0, 1) := by decide +kernel
theorem dX12_noSeer_3 : decode cX12_noSeer 3 = .ok (.getfield 13, 3) := by decide +kernel
theorem dX12_noSeer_6 : decode cX12_noSeer 6 = .ok (.iconst 5, 1) := by decide +kernel
theorem dX12_noSeer_7 : decode cX12_noSeer 7 = .ok (.iaload, 1) := by decide +kernel
theorem dX12_noSeer_8 : decode cX12_noSeer 8 = .ok (.iconst 1, 1) := by decide +kernel
theorem dX12_noSeer_9 : decode cX12_noSeer 9 = .ok (.isub, 1) := by decide +kernel
theorem dX12_noSeer_10 : decode cX12_noSeer 10 = .ok (.invokestatic 84, 3) := by decide +kernel
theorem dX12_noSeer_13 : decode cX12_noSeer 13 = .ok (.ifCond .ne 7, 3) := by decide +kernel
theorem dX12_noSeer_16 : decode cX12_noSeer 16 = .ok (.iconst 1, 1) := by decide +kernel
theorem dX12_noSeer_17 : decode cX12_noSeer 17 = .ok (.goto 4, 3) := by decide +kernel
theorem dX12_noSeer_20 : decode cX12_noSeer 20 = .ok (.iconst 0, 1) := by decide +kernel
theorem dX12_noSeer_21 : decode cX12_noSeer 21 = .ok (.ireturn, 1) := by decide +kernel
set_option maxRecDepth 20000 in
theorem kb_217_0 : ∀ q ∈ tb_217_0, s_atx 217 yX12_noSeer cX12_noSeer q.1 q.2 := (List.forall_mem_cons.mpr ⟨⟨s_ldIn dX12_noSeer_0 rfl, s_mo_ldI _ _⟩, (List.forall_mem_cons.mpr ⟨⟨s_iconst dX12_noSeer_1 (by decide +kernel), s_mo_push _ _⟩, (List.forall_mem_cons.mpr ⟨⟨s_ldAn dX12_noSeer_2 rfl, s_mo_ldA _ _⟩, (List.forall_mem_cons.mpr ⟨⟨s_getf (ci := 8) (k := 1) rfl (by decide) inX12 w_1222 dX12_noSeer_3, s_mo_getf _ _ _⟩, (List.forall_mem_cons.mpr ⟨⟨s_iconst dX12_noSeer_6 (by decide +kernel), s_mo_push _ _⟩, (List.forall_mem_cons.mpr ⟨⟨s_iald dX12_noSeer_7, s_mo_iald _⟩, (List.forall_mem_cons.mpr ⟨⟨s_iconst dX12_noSeer_8 (by decide +kernel), s_mo_push _ _⟩, (List.forall_mem_cons.mpr ⟨⟨s_isub dX12_noSeer_9, s_mo_bin _ _⟩, (List.forall_mem_cons.mpr ⟨⟨s_sS mk_217 mk_150 ok_150 (by decide +kernel) dX12_noSeer_10 w_1458 w_1459, s_h0 mk_217⟩, (List.forall_mem_cons.mpr ⟨⟨s_ifne dX12_noSeer_13 (by decide), s_mo_ifne _ _⟩, (List.forall_mem_cons.mpr ⟨⟨s_iconst dX12_noSeer_16 (by decide +kernel), s_mo_push _ _⟩, (List.forall_mem_cons.mpr ⟨⟨s_goto dX12_noSeer_17 (by decide), s_mo_goto _⟩, (List.forall_mem_cons.mpr ⟨⟨s_iconst dX12_noSeer_20 (by decide +kernel), s_mo_push _ _⟩, (List.forall_mem_cons.mpr ⟨s_r2 mk_217 dX12_noSeer_21, (fun _ h => absurd h List.not_mem_nil)⟩)⟩)⟩)⟩)⟩)⟩)⟩)⟩)⟩)⟩)⟩)⟩)⟩)⟩)
theorem km_217 : ∀ t ∈ tm_217, s_tok 217 t := (List.forall_mem_cons.mpr ⟨s_lift mk_217 kb_217_0, (fun _ h => absurd h List.not_mem_nil)⟩)
