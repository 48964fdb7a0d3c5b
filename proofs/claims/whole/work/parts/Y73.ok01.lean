/-! The tables are backed, piece by piece: written by wip/whole/gen_prog.py -/
theorem dX2_init_0 : decode cX2_init 0 = .ok (.aload_n 0, 1) := by decide +kernel
theorem dX2_init_1 : decode cX2_init 1 = .ok (.invokespecial 3, 3) := by decide +kernel
theorem dX2_init_4 : decode cX2_init 4 = .ok (.aload_n 0, 1) := by decide +kernel
theorem dX2_init_5 : decode cX2_init 5 = .ok (.sipush 1000, 3) := by decide +kernel
theorem dX2_init_8 : decode cX2_init 8 = .ok (.putfield 11, 3) := by decide +kernel
theorem dX2_init_11 : decode cX2_init 11 = .ok (.return_, 1) := by decide +kernel
set_option maxRecDepth 20000 in
theorem kb_23_0 : ∀ q ∈ tb_23_0, s_atx 23 yX2_init cX2_init q.1 q.2 := (List.forall_mem_cons.mpr ⟨⟨s_ldAn dX2_init_0 rfl, s_mo_ldA _ _⟩, (List.forall_mem_cons.mpr ⟨⟨s_oinit w_244 w_oi w_oc dX2_init_1, s_mo_oinit _⟩, (List.forall_mem_cons.mpr ⟨⟨s_ldAn dX2_init_4 rfl, s_mo_ldA _ _⟩, (List.forall_mem_cons.mpr ⟨⟨s_sipush dX2_init_5 (by decide +kernel), s_mo_push _ _⟩, (List.forall_mem_cons.mpr ⟨⟨s_putI (ci := 1) (k := 0) rfl (by decide) inX2 tyX2_ok nmX2 rfl rfl w_245 dX2_init_8, s_mo_putI _ _ _⟩, (List.forall_mem_cons.mpr ⟨s_r0 mk_23 dX2_init_11, (fun _ h => absurd h List.not_mem_nil)⟩)⟩)⟩)⟩)⟩)⟩)
theorem km_23 : ∀ t ∈ tm_23, s_tok 23 t := (List.forall_mem_cons.mpr ⟨s_lift mk_23 kb_23_0, (fun _ h => absurd h List.not_mem_nil)⟩)
theorem dX2_strike_0 : decode cX2_strike 0 = .ok (.aload_n 0, 1) := by decide +kernel
theorem dX2_strike_1 : decode cX2_strike 1 = .ok (.sipush 1000, 3) := by decide +kernel
theorem dX2_strike_4 : decode cX2_strike 4 = .ok (.putfield 11, 3) := by decide +kernel
theorem dX2_strike_7 : decode cX2_strike 7 = .ok (.iload_n 3, 1) := by decide +kernel
theorem dX2_strike_8 : decode cX2_strike 8 = .ok (.aload_n 1, 1) := by decide +kernel
theorem dX2_strike_9 : decode cX2_strike 9 = .ok (.iload_n 2, 1) := by decide +kernel
theorem dX2_strike_10 : decode cX2_strike 10 = .ok (.invokevirtual 15, 3) := by decide +kernel
theorem dX2_strike_13 : decode cX2_strike 13 = .ok (.isub, 1) := by decide +kernel
theorem dX2_strike_14 : decode cX2_strike 14 = .ok (.istore 4, 2) := by decide +kernel
theorem dX2_strike_16 : decode cX2_strike 16 = .ok (.iload 4, 2) := by decide +kernel
theorem dX2_strike_18 : decode cX2_strike 18 = .ok (.ifCond .gt 5, 3) := by decide +kernel
theorem dX2_strike_21 : decode cX2_strike 21 = .ok (.iconst 0, 1) := by decide +kernel
theorem dX2_strike_22 : decode cX2_strike 22 = .ok (.ireturn, 1) := by decide +kernel
theorem dX2_strike_23 : decode cX2_strike 23 = .ok (.aload_n 1, 1) := by decide +kernel
theorem dX2_strike_24 : decode cX2_strike 24 = .ok (.getfield 21, 3) := by decide +kernel
theorem dX2_strike_27 : decode cX2_strike 27 = .ok (.iload_n 2, 1) := by decide +kernel
theorem dX2_strike_28 : decode cX2_strike 28 = .ok (.iaload, 1) := by decide +kernel
theorem dX2_strike_29 : decode cX2_strike 29 = .ok (.iconst 3, 1) := by decide +kernel
theorem dX2_strike_30 : decode cX2_strike 30 = .ok (.if_icmp .ge 9, 3) := by decide +kernel
theorem dX2_strike_33 : decode cX2_strike 33 = .ok (.iconst 1, 1) := by decide +kernel
theorem dX2_strike_34 : decode cX2_strike 34 = .ok (.iload_n 2, 1) := by decide +kernel
theorem dX2_strike_35 : decode cX2_strike 35 = .ok (.ishl, 1) := by decide +kernel
theorem dX2_strike_36 : decode cX2_strike 36 = .ok (.goto 4, 3) := by decide +kernel
theorem dX2_strike_39 : decode cX2_strike 39 = .ok (.iconst 0, 1) := by decide +kernel
theorem dX2_strike_40 : decode cX2_strike 40 = .ok (.istore 5, 2) := by decide +kernel
theorem dX2_strike_42 : decode cX2_strike 42 = .ok (.aload_n 1, 1) := by decide +kernel
theorem dX2_strike_43 : decode cX2_strike 43 = .ok (.getfield 25, 3) := by decide +kernel
theorem dX2_strike_46 : decode cX2_strike 46 = .ok (.aload_n 1, 1) := by decide +kernel
theorem dX2_strike_47 : decode cX2_strike 47 = .ok (.iconst 1, 1) := by decide +kernel
theorem dX2_strike_48 : decode cX2_strike 48 = .ok (.invokevirtual 28, 3) := by decide +kernel
theorem dX2_strike_51 : decode cX2_strike 51 = .ok (.iconst (-1), 1) := by decide +kernel
theorem dX2_strike_52 : decode cX2_strike 52 = .ok (.ixor, 1) := by decide +kernel
theorem dX2_strike_53 : decode cX2_strike 53 = .ok (.iand, 1) := by decide +kernel
theorem dX2_strike_54 : decode cX2_strike 54 = .ok (.iload 5, 2) := by decide +kernel
theorem dX2_strike_56 : decode cX2_strike 56 = .ok (.iconst (-1), 1) := by decide +kernel
theorem dX2_strike_57 : decode cX2_strike 57 = .ok (.ixor, 1) := by decide +kernel
theorem dX2_strike_58 : decode cX2_strike 58 = .ok (.iand, 1) := by decide +kernel
theorem dX2_strike_59 : decode cX2_strike 59 = .ok (.istore 6, 2) := by decide +kernel
theorem dX2_strike_61 : decode cX2_strike 61 = .ok (.iload_n 2, 1) := by decide +kernel
theorem dX2_strike_62 : decode cX2_strike 62 = .ok (.istore 7, 2) := by decide +kernel
theorem dX2_strike_64 : decode cX2_strike 64 = .ok (.iconst 0, 1) := by decide +kernel
theorem dX2_strike_65 : decode cX2_strike 65 = .ok (.istore 8, 2) := by decide +kernel
theorem dX2_strike_67 : decode cX2_strike 67 = .ok (.iload 8, 2) := by decide +kernel
theorem dX2_strike_69 : decode cX2_strike 69 = .ok (.bipush 30, 2) := by decide +kernel
theorem dX2_strike_71 : decode cX2_strike 71 = .ok (.if_icmp .ge 69, 3) := by decide +kernel
theorem dX2_strike_74 : decode cX2_strike 74 = .ok (.aload_n 0, 1) := by decide +kernel
theorem dX2_strike_75 : decode cX2_strike 75 = .ok (.aload_n 1, 1) := by decide +kernel
theorem dX2_strike_76 : decode cX2_strike 76 = .ok (.iload 7, 2) := by decide +kernel
theorem dX2_strike_78 : decode cX2_strike 78 = .ok (.iload 6, 2) := by decide +kernel
theorem dX2_strike_80 : decode cX2_strike 80 = .ok (.iload 4, 2) := by decide +kernel
theorem dX2_strike_82 : decode cX2_strike 82 = .ok (.invokevirtual 31, 3) := by decide +kernel
theorem dX2_strike_85 : decode cX2_strike 85 = .ok (.istore 9, 2) := by decide +kernel
theorem dX2_strike_87 : decode cX2_strike 87 = .ok (.iload 9, 2) := by decide +kernel
theorem dX2_strike_89 : decode cX2_strike 89 = .ok (.iconst (-1), 1) := by decide +kernel
theorem dX2_strike_90 : decode cX2_strike 90 = .ok (.if_icmp .ne 6, 3) := by decide +kernel
theorem dX2_strike_93 : decode cX2_strike 93 = .ok (.goto 47, 3) := by decide +kernel
theorem dX2_strike_96 : decode cX2_strike 96 = .ok (.iload 5, 2) := by decide +kernel
theorem dX2_strike_98 : decode cX2_strike 98 = .ok (.iconst 1, 1) := by decide +kernel
theorem dX2_strike_99 : decode cX2_strike 99 = .ok (.iload 9, 2) := by decide +kernel
theorem dX2_strike_101 : decode cX2_strike 101 = .ok (.ishl, 1) := by decide +kernel
theorem dX2_strike_102 : decode cX2_strike 102 = .ok (.ior, 1) := by decide +kernel
theorem dX2_strike_103 : decode cX2_strike 103 = .ok (.istore 5, 2) := by decide +kernel
theorem dX2_strike_105 : decode cX2_strike 105 = .ok (.iload 6, 2) := by decide +kernel
theorem dX2_strike_107 : decode cX2_strike 107 = .ok (.iconst 1, 1) := by decide +kernel
theorem dX2_strike_108 : decode cX2_strike 108 = .ok (.iload 9, 2) := by decide +kernel
theorem dX2_strike_110 : decode cX2_strike 110 = .ok (.ishl, 1) := by decide +kernel
theorem dX2_strike_111 : decode cX2_strike 111 = .ok (.iconst (-1), 1) := by decide +kernel
theorem dX2_strike_112 : decode cX2_strike 112 = .ok (.ixor, 1) := by decide +kernel
theorem dX2_strike_113 : decode cX2_strike 113 = .ok (.iand, 1) := by decide +kernel
theorem dX2_strike_114 : decode cX2_strike 114 = .ok (.istore 6, 2) := by decide +kernel
theorem dX2_strike_116 : decode cX2_strike 116 = .ok (.iload 4, 2) := by decide +kernel
theorem dX2_strike_118 : decode cX2_strike 118 = .ok (.iconst 5, 1) := by decide +kernel
theorem dX2_strike_119 : decode cX2_strike 119 = .ok (.aload_n 1, 1) := by decide +kernel
theorem dX2_strike_120 : decode cX2_strike 120 = .ok (.getfield 35, 3) := by decide +kernel
theorem dX2_strike_123 : decode cX2_strike 123 = .ok (.iload 9, 2) := by decide +kernel
theorem dX2_strike_125 : decode cX2_strike 125 = .ok (.iaload, 1) := by decide +kernel
theorem dX2_strike_126 : decode cX2_strike 126 = .ok (.imul, 1) := by decide +kernel
theorem dX2_strike_127 : decode cX2_strike 127 = .ok (.isub, 1) := by decide +kernel
theorem dX2_strike_128 : decode cX2_strike 128 = .ok (.istore 4, 2) := by decide +kernel
theorem dX2_strike_130 : decode cX2_strike 130 = .ok (.iload 9, 2) := by decide +kernel
theorem dX2_strike_132 : decode cX2_strike 132 = .ok (.istore 7, 2) := by decide +kernel
theorem dX2_strike_134 : decode cX2_strike 134 = .ok (.iinc 8 1, 3) := by decide +kernel
theorem dX2_strike_137 : decode cX2_strike 137 = .ok (.goto (-70), 3) := by decide +kernel
theorem dX2_strike_140 : decode cX2_strike 140 = .ok (.iload 5, 2) := by decide +kernel
theorem dX2_strike_142 : decode cX2_strike 142 = .ok (.ireturn, 1) := by decide +kernel
set_option maxRecDepth 20000 in
theorem kb_24_0 : ∀ q ∈ tb_24_0, s_atx 24 yX2_strike cX2_strike q.1 q.2 := (List.forall_mem_cons.mpr ⟨⟨s_ldAn dX2_strike_0 rfl, s_mo_ldA _ _⟩, (List.forall_mem_cons.mpr ⟨⟨s_sipush dX2_strike_1 (by decide +kernel), s_mo_push _ _⟩, (List.forall_mem_cons.mpr ⟨⟨s_putI (ci := 1) (k := 0) rfl (by decide) inX2 tyX2_ok nmX2 rfl rfl w_245 dX2_strike_4, s_mo_putI _ _ _⟩, (List.forall_mem_cons.mpr ⟨⟨s_ldIn dX2_strike_7 rfl, s_mo_ldI _ _⟩, (List.forall_mem_cons.mpr ⟨⟨s_ldAn dX2_strike_8 rfl, s_mo_ldA _ _⟩, (List.forall_mem_cons.mpr ⟨⟨s_ldIn dX2_strike_9 rfl, s_mo_ldI _ _⟩, (List.forall_mem_cons.mpr ⟨⟨s_sV mk_24 mk_7 ok_7 (by decide +kernel) dX2_strike_10 w_1099 w_782 w_783 (Or.inr ⟨0, _, _, rfl, rfl⟩), s_h0 mk_24⟩, (List.forall_mem_cons.mpr ⟨⟨s_isub dX2_strike_13, s_mo_bin _ _⟩, (List.forall_mem_cons.mpr ⟨⟨s_stI dX2_strike_14, s_mo_stI _ _⟩, (List.forall_mem_cons.mpr ⟨⟨s_ldI dX2_strike_16, s_mo_ldI _ _⟩, (List.forall_mem_cons.mpr ⟨⟨s_ifgt dX2_strike_18 (by decide), s_mo_ifgt _ _⟩, (List.forall_mem_cons.mpr ⟨⟨s_iconst dX2_strike_21 (by decide +kernel), s_mo_push _ _⟩, (List.forall_mem_cons.mpr ⟨s_r1 mk_24 dX2_strike_22, (List.forall_mem_cons.mpr ⟨⟨s_ldAn dX2_strike_23 rfl, s_mo_ldA _ _⟩, (List.forall_mem_cons.mpr ⟨⟨s_getf (ci := 0) (k := 9) rfl (by decide) inX0 w_89 dX2_strike_24, s_mo_getf _ _ _⟩, (List.forall_mem_cons.mpr ⟨⟨s_ldIn dX2_strike_27 rfl, s_mo_ldI _ _⟩, (List.forall_mem_cons.mpr ⟨⟨s_iald dX2_strike_28, s_mo_iald _⟩, (List.forall_mem_cons.mpr ⟨⟨s_iconst dX2_strike_29 (by decide +kernel), s_mo_push _ _⟩, (List.forall_mem_cons.mpr ⟨⟨s_icge dX2_strike_30 (by decide), s_mo_icge _ _⟩, (List.forall_mem_cons.mpr ⟨⟨s_iconst dX2_strike_33 (by decide +kernel), s_mo_push _ _⟩, (List.forall_mem_cons.mpr ⟨⟨s_ldIn dX2_strike_34 rfl, s_mo_ldI _ _⟩, (List.forall_mem_cons.mpr ⟨⟨s_ishl dX2_strike_35, s_mo_bin _ _⟩, (List.forall_mem_cons.mpr ⟨⟨s_goto dX2_strike_36 (by decide), s_mo_goto _⟩, (List.forall_mem_cons.mpr ⟨⟨s_iconst dX2_strike_39 (by decide +kernel), s_mo_push _ _⟩, (List.forall_mem_cons.mpr ⟨⟨s_stI dX2_strike_40, s_mo_stI _ _⟩, (List.forall_mem_cons.mpr ⟨⟨s_ldAn dX2_strike_42 rfl, s_mo_ldA _ _⟩, (List.forall_mem_cons.mpr ⟨⟨s_getf (ci := 0) (k := 3) rfl (by decide) inX0 w_65 dX2_strike_43, s_mo_getf _ _ _⟩, (List.forall_mem_cons.mpr ⟨⟨s_ldAn dX2_strike_46 rfl, s_mo_ldA _ _⟩, (List.forall_mem_cons.mpr ⟨⟨s_iconst dX2_strike_47 (by decide +kernel), s_mo_push _ _⟩, (List.forall_mem_cons.mpr ⟨⟨s_sV mk_24 mk_5 ok_5 (by decide +kernel) dX2_strike_48 w_1100 w_400 w_401 (Or.inr ⟨0, _, _, rfl, rfl⟩), s_h0 mk_24⟩, (List.forall_mem_cons.mpr ⟨⟨s_iconst dX2_strike_51 (by decide +kernel), s_mo_push _ _⟩, (List.forall_mem_cons.mpr ⟨⟨s_ixor dX2_strike_52, s_mo_bin _ _⟩, (List.forall_mem_cons.mpr ⟨⟨s_iand dX2_strike_53, s_mo_bin _ _⟩, (List.forall_mem_cons.mpr ⟨⟨s_ldI dX2_strike_54, s_mo_ldI _ _⟩, (List.forall_mem_cons.mpr ⟨⟨s_iconst dX2_strike_56 (by decide +kernel), s_mo_push _ _⟩, (List.forall_mem_cons.mpr ⟨⟨s_ixor dX2_strike_57, s_mo_bin _ _⟩, (List.forall_mem_cons.mpr ⟨⟨s_iand dX2_strike_58, s_mo_bin _ _⟩, (List.forall_mem_cons.mpr ⟨⟨s_stI dX2_strike_59, s_mo_stI _ _⟩, (List.forall_mem_cons.mpr ⟨⟨s_ldIn dX2_strike_61 rfl, s_mo_ldI _ _⟩, (List.forall_mem_cons.mpr ⟨⟨s_stI dX2_strike_62, s_mo_stI _ _⟩, (fun _ h => absurd h List.not_mem_nil)⟩)⟩)⟩)⟩)⟩)⟩)⟩)⟩)⟩)⟩)⟩)⟩)⟩)⟩)⟩)⟩)⟩)⟩)⟩)⟩)⟩)⟩)⟩)⟩)⟩)⟩)⟩)⟩)⟩)⟩)⟩)⟩)⟩)⟩)⟩)⟩)⟩)⟩)⟩)⟩)
set_option maxRecDepth 20000 in
theorem kb_24_1 : ∀ q ∈ tb_24_1, s_atx 24 yX2_strike cX2_strike q.1 q.2 := (List.forall_mem_cons.mpr ⟨⟨s_iconst dX2_strike_64 (by decide +kernel), s_mo_push _ _⟩, (List.forall_mem_cons.mpr ⟨⟨s_stI dX2_strike_65, s_mo_stI _ _⟩, (List.forall_mem_cons.mpr ⟨⟨s_ldI dX2_strike_67, s_mo_ldI _ _⟩, (List.forall_mem_cons.mpr ⟨⟨s_bipush dX2_strike_69 (by decide +kernel), s_mo_push _ _⟩, (List.forall_mem_cons.mpr ⟨⟨s_icge dX2_strike_71 (by decide), s_mo_icge _ _⟩, (List.forall_mem_cons.mpr ⟨⟨s_ldAn dX2_strike_74 rfl, s_mo_ldA _ _⟩, (List.forall_mem_cons.mpr ⟨⟨s_ldAn dX2_strike_75 rfl, s_mo_ldA _ _⟩, (List.forall_mem_cons.mpr ⟨⟨s_ldI dX2_strike_76, s_mo_ldI _ _⟩, (List.forall_mem_cons.mpr ⟨⟨s_ldI dX2_strike_78, s_mo_ldI _ _⟩, (List.forall_mem_cons.mpr ⟨⟨s_ldI dX2_strike_80, s_mo_ldI _ _⟩, (List.forall_mem_cons.mpr ⟨⟨s_sV mk_24 mk_25 ok_25 (by decide +kernel) dX2_strike_82 w_1101 w_1103 wp_22 (Or.inr ⟨1, _, _, rfl, rfl⟩), s_h0 mk_24⟩, (List.forall_mem_cons.mpr ⟨⟨s_stI dX2_strike_85, s_mo_stI _ _⟩, (List.forall_mem_cons.mpr ⟨⟨s_ldI dX2_strike_87, s_mo_ldI _ _⟩, (List.forall_mem_cons.mpr ⟨⟨s_iconst dX2_strike_89 (by decide +kernel), s_mo_push _ _⟩, (List.forall_mem_cons.mpr ⟨⟨s_icne dX2_strike_90 (by decide), s_mo_icne _ _⟩, (List.forall_mem_cons.mpr ⟨⟨s_goto dX2_strike_93 (by decide), s_mo_goto _⟩, (List.forall_mem_cons.mpr ⟨⟨s_ldI dX2_strike_96, s_mo_ldI _ _⟩, (List.forall_mem_cons.mpr ⟨⟨s_iconst dX2_strike_98 (by decide +kernel), s_mo_push _ _⟩, (List.forall_mem_cons.mpr ⟨⟨s_ldI dX2_strike_99, s_mo_ldI _ _⟩, (List.forall_mem_cons.mpr ⟨⟨s_ishl dX2_strike_101, s_mo_bin _ _⟩, (List.forall_mem_cons.mpr ⟨⟨s_ior dX2_strike_102, s_mo_bin _ _⟩, (List.forall_mem_cons.mpr ⟨⟨s_stI dX2_strike_103, s_mo_stI _ _⟩, (List.forall_mem_cons.mpr ⟨⟨s_ldI dX2_strike_105, s_mo_ldI _ _⟩, (List.forall_mem_cons.mpr ⟨⟨s_iconst dX2_strike_107 (by decide +kernel), s_mo_push _ _⟩, (List.forall_mem_cons.mpr ⟨⟨s_ldI dX2_strike_108, s_mo_ldI _ _⟩, (List.forall_mem_cons.mpr ⟨⟨s_ishl dX2_strike_110, s_mo_bin _ _⟩, (List.forall_mem_cons.mpr ⟨⟨s_iconst dX2_strike_111 (by decide +kernel), s_mo_push _ _⟩, (List.forall_mem_cons.mpr ⟨⟨s_ixor dX2_strike_112, s_mo_bin _ _⟩, (List.forall_mem_cons.mpr ⟨⟨s_iand dX2_strike_113, s_mo_bin _ _⟩, (List.forall_mem_cons.mpr ⟨⟨s_stI dX2_strike_114, s_mo_stI _ _⟩, (List.forall_mem_cons.mpr ⟨⟨s_ldI dX2_strike_116, s_mo_ldI _ _⟩, (List.forall_mem_cons.mpr ⟨⟨s_iconst dX2_strike_118 (by decide +kernel), s_mo_push _ _⟩, (List.forall_mem_cons.mpr ⟨⟨s_ldAn dX2_strike_119 rfl, s_mo_ldA _ _⟩, (List.forall_mem_cons.mpr ⟨⟨s_getf (ci := 0) (k := 6) rfl (by decide) inX0 w_72 dX2_strike_120, s_mo_getf _ _ _⟩, (List.forall_mem_cons.mpr ⟨⟨s_ldI dX2_strike_123, s_mo_ldI _ _⟩, (List.forall_mem_cons.mpr ⟨⟨s_iald dX2_strike_125, s_mo_iald _⟩, (List.forall_mem_cons.mpr ⟨⟨s_imul dX2_strike_126, s_mo_bin _ _⟩, (List.forall_mem_cons.mpr ⟨⟨s_isub dX2_strike_127, s_mo_bin _ _⟩, (fun _ h => absurd h List.not_mem_nil)⟩)⟩)⟩)⟩)⟩)⟩)⟩)⟩)⟩)⟩)⟩)⟩)⟩)⟩)⟩)⟩)⟩)⟩)⟩)⟩)⟩)⟩)⟩)⟩)⟩)⟩)⟩)⟩)⟩)⟩)⟩)⟩)⟩)⟩)⟩)⟩)⟩)⟩)
set_option maxRecDepth 20000 in
theorem kb_24_2 : ∀ q ∈ tb_24_2, s_atx 24 yX2_strike cX2_strike q.1 q.2 := (List.forall_mem_cons.mpr ⟨⟨s_stI dX2_strike_128, s_mo_stI _ _⟩, (List.forall_mem_cons.mpr ⟨⟨s_ldI dX2_strike_130, s_mo_ldI _ _⟩, (List.forall_mem_cons.mpr ⟨⟨s_stI dX2_strike_132, s_mo_stI _ _⟩, (List.forall_mem_cons.mpr ⟨⟨s_inc dX2_strike_134 (by decide +kernel), s_mo_inc _ _ _⟩, (List.forall_mem_cons.mpr ⟨⟨s_goto dX2_strike_137 (by decide), s_mo_goto _⟩, (List.forall_mem_cons.mpr ⟨⟨s_ldI dX2_strike_140, s_mo_ldI _ _⟩, (List.forall_mem_cons.mpr ⟨s_r1 mk_24 dX2_strike_142, (fun _ h => absurd h List.not_mem_nil)⟩)⟩)⟩)⟩)⟩)⟩)⟩)
theorem km_24 : ∀ t ∈ tm_24, s_tok 24 t := (List.forall_mem_cons.mpr ⟨s_lift mk_24 kb_24_0, (List.forall_mem_cons.mpr ⟨s_lift mk_24 kb_24_1, (List.forall_mem_cons.mpr ⟨s_lift mk_24 kb_24_2, (fun _ h => absurd h List.not_mem_nil)⟩)⟩)⟩)
theorem dX2_nextPane_0 : decode cX2_nextPane 0 = .ok (.iconst (-1), 1) := by decide +kernel
theorem dX2_nextPane_1 : decode cX2_nextPane 1 = .ok (.istore 5, 2) := by decide +kernel
theorem dX2_nextPane_3 : decode cX2_nextPane 3 = .ok (.iconst (-1), 1) := by decide +kernel
theorem dX2_nextPane_4 : decode cX2_nextPane 4 = .ok (.istore 6, 2) := by decide +kernel
theorem dX2_nextPane_6 : decode cX2_nextPane 6 = .ok (.iconst 0, 1) := by decide +kernel
theorem dX2_nextPane_7 : decode cX2_nextPane 7 = .ok (.istore 7, 2) := by decide +kernel
theorem dX2_nextPane_9 : decode cX2_nextPane 9 = .ok (.iload 7, 2) := by decide +kernel
theorem dX2_nextPane_11 : decode cX2_nextPane 11 = .ok (.iconst 4, 1) := by decide +kernel
theorem dX2_nextPane_12 : decode cX2_nextPane 12 = .ok (.if_icmp .ge 119, 3) := by decide +kernel
theorem dX2_nextPane_15 : decode cX2_nextPane 15 = .ok (.aload_n 1, 1) := by decide +kernel
theorem dX2_nextPane_16 : decode cX2_nextPane 16 = .ok (.iload_n 2, 1) := by decide +kernel
theorem dX2_nextPane_17 : decode cX2_nextPane 17 = .ok (.iload 7, 2) := by decide +kernel
theorem dX2_nextPane_19 : decode cX2_nextPane 19 = .ok (.invokevirtual 38, 3) := by decide +kernel
theorem dX2_nextPane_22 : decode cX2_nextPane 22 = .ok (.istore 8, 2) := by decide +kernel
theorem dX2_nextPane_24 : decode cX2_nextPane 24 = .ok (.iload 8, 2) := by decide +kernel
theorem dX2_nextPane_26 : decode cX2_nextPane 26 = .ok (.iconst (-1), 1) := by decide +kernel
theorem dX2_nextPane_27 : decode cX2_nextPane 27 = .ok (.if_icmp .eq 98, 3) := by decide +kernel
theorem dX2_nextPane_30 : decode cX2_nextPane 30 = .ok (.iload_n 3, 1) := by decide +kernel
theorem dX2_nextPane_31 : decode cX2_nextPane 31 = .ok (.iload 8, 2) := by decide +kernel
theorem dX2_nextPane_33 : decode cX2_nextPane 33 = .ok (.ishr, 1) := by decide +kernel
theorem dX2_nextPane_34 : decode cX2_nextPane 34 = .ok (.iconst 1, 1) := by decide +kernel
theorem dX2_nextPane_35 : decode cX2_nextPane 35 = .ok (.iand, 1) := by decide +kernel
theorem dX2_nextPane_36 : decode cX2_nextPane 36 = .ok (.ifCond .ne 6, 3) := by decide +kernel
theorem dX2_nextPane_39 : decode cX2_nextPane 39 = .ok (.goto 86, 3) := by decide +kernel
theorem dX2_nextPane_42 : decode cX2_nextPane 42 = .ok (.aload_n 1, 1) := by decide +kernel
theorem dX2_nextPane_43 : decode cX2_nextPane 43 = .ok (.getfield 42, 3) := by decide +kernel
theorem dX2_nextPane_46 : decode cX2_nextPane 46 = .ok (.iload 8, 2) := by decide +kernel
theorem dX2_nextPane_48 : decode cX2_nextPane 48 = .ok (.iaload, 1) := by decide +kernel
theorem dX2_nextPane_49 : decode cX2_nextPane 49 = .ok (.aload_n 1, 1) := by decide +kernel
theorem dX2_nextPane_50 : decode cX2_nextPane 50 = .ok (.getfield 42, 3) := by decide +kernel
theorem dX2_nextPane_53 : decode cX2_nextPane 53 = .ok (.iload_n 2, 1) := by decide +kernel
theorem dX2_nextPane_54 : decode cX2_nextPane 54 = .ok (.iaload, 1) := by decide +kernel
theorem dX2_nextPane_55 : decode cX2_nextPane 55 = .ok (.isub, 1) := by decide +kernel
theorem dX2_nextPane_56 : decode cX2_nextPane 56 = .ok (.invokestatic 45, 3) := by decide +kernel
theorem dX2_nextPane_59 : decode cX2_nextPane 59 = .ok (.istore 9, 2) := by decide +kernel
theorem dX2_nextPane_61 : decode cX2_nextPane 61 = .ok (.iload 4, 2) := by decide +kernel
theorem dX2_nextPane_63 : decode cX2_nextPane 63 = .ok (.iconst 5, 1) := by decide +kernel
theorem dX2_nextPane_64 : decode cX2_nextPane 64 = .ok (.aload_n 1, 1) := by decide +kernel
theorem dX2_nextPane_65 : decode cX2_nextPane 65 = .ok (.getfield 35, 3) := by decide +kernel
theorem dX2_nextPane_68 : decode cX2_nextPane 68 = .ok (.iload 8, 2) := by decide +kernel
theorem dX2_nextPane_70 : decode cX2_nextPane 70 = .ok (.iaload, 1) := by decide +kernel
theorem dX2_nextPane_71 : decode cX2_nextPane 71 = .ok (.imul, 1) := by decide +kernel
theorem dX2_nextPane_72 : decode cX2_nextPane 72 = .ok (.isub, 1) := by decide +kernel
theorem dX2_nextPane_73 : decode cX2_nextPane 73 = .ok (.istore 10, 2) := by decide +kernel
theorem dX2_nextPane_75 : decode cX2_nextPane 75 = .ok (.iload 9, 2) := by decide +kernel
theorem dX2_nextPane_77 : decode cX2_nextPane 77 = .ok (.aload_n 1, 1) := by decide +kernel
theorem dX2_nextPane_78 : decode cX2_nextPane 78 = .ok (.getfield 50, 3) := by decide +kernel
theorem dX2_nextPane_81 : decode cX2_nextPane 81 = .ok (.if_icmp .ge 6, 3) := by decide +kernel
theorem dX2_nextPane_84 : decode cX2_nextPane 84 = .ok (.goto 41, 3) := by decide +kernel
theorem dX2_nextPane_87 : decode cX2_nextPane 87 = .ok (.iload 10, 2) := by decide +kernel
theorem dX2_nextPane_89 : decode cX2_nextPane 89 = .ok (.ifCond .gt 21, 3) := by decide +kernel
theorem dX2_nextPane_92 : decode cX2_nextPane 92 = .ok (.aload_n 0, 1) := by decide +kernel
theorem dX2_nextPane_93 : decode cX2_nextPane 93 = .ok (.aload_n 0, 1) := by decide +kernel
theorem dX2_nextPane_94 : decode cX2_nextPane 94 = .ok (.getfield 11, 3) := by decide +kernel
theorem dX2_nextPane_97 : decode cX2_nextPane 97 = .ok (.iconst 1, 1) := by decide +kernel
theorem dX2_nextPane_98 : decode cX2_nextPane 98 = .ok (.iload 10, 2) := by decide +kernel
theorem dX2_nextPane_100 : decode cX2_nextPane 100 = .ok (.isub, 1) := by decide +kernel
theorem dX2_nextPane_101 : decode cX2_nextPane 101 = .ok (.invokestatic 53, 3) := by decide +kernel
theorem dX2_nextPane_104 : decode cX2_nextPane 104 = .ok (.putfield 11, 3) := by decide +kernel
theorem dX2_nextPane_107 : decode cX2_nextPane 107 = .ok (.goto 18, 3) := by decide +kernel
theorem dX2_nextPane_110 : decode cX2_nextPane 110 = .ok (.iload 9, 2) := by decide +kernel
theorem dX2_nextPane_112 : decode cX2_nextPane 112 = .ok (.iload 6, 2) := by decide +kernel
theorem dX2_nextPane_114 : decode cX2_nextPane 114 = .ok (.if_icmp .le 11, 3) := by decide +kernel
theorem dX2_nextPane_117 : decode cX2_nextPane 117 = .ok (.iload 9, 2) := by decide +kernel
theorem dX2_nextPane_119 : decode cX2_nextPane 119 = .ok (.istore 6, 2) := by decide +kernel
theorem dX2_nextPane_121 : decode cX2_nextPane 121 = .ok (.iload 8, 2) := by decide +kernel
theorem dX2_nextPane_123 : decode cX2_nextPane 123 = .ok (.istore 5, 2) := by decide +kernel
theorem dX2_nextPane_125 : decode cX2_nextPane 125 = .ok (.iinc 7 1, 3) := by decide +kernel
theorem dX2_nextPane_128 : decode cX2_nextPane 128 = .ok (.goto (-119), 3) := by decide +kernel
theorem dX2_nextPane_131 : decode cX2_nextPane 131 = .ok (.iload 5, 2) := by decide +kernel
theorem dX2_nextPane_133 : decode cX2_nextPane 133 = .ok (.ireturn, 1) := by decide +kernel
set_option maxRecDepth 20000 in
theorem kb_25_0 : ∀ q ∈ tb_25_0, s_atx 25 yX2_nextPane cX2_nextPane q.1 q.2 := (List.forall_mem_cons.mpr ⟨⟨s_iconst dX2_nextPane_0 (by decide +kernel), s_mo_push _ _⟩, (List.forall_mem_cons.mpr ⟨⟨s_stI dX2_nextPane_1, s_mo_stI _ _⟩, (List.forall_mem_cons.mpr ⟨⟨s_iconst dX2_nextPane_3 (by decide +kernel), s_mo_push _ _⟩, (List.forall_mem_cons.mpr ⟨⟨s_stI dX2_nextPane_4, s_mo_stI _ _⟩, (List.forall_mem_cons.mpr ⟨⟨s_iconst dX2_nextPane_6 (by decide +kernel), s_mo_push _ _⟩, (List.forall_mem_cons.mpr ⟨⟨s_stI dX2_nextPane_7, s_mo_stI _ _⟩, (List.forall_mem_cons.mpr ⟨⟨s_ldI dX2_nextPane_9, s_mo_ldI _ _⟩, (List.forall_mem_cons.mpr ⟨⟨s_iconst dX2_nextPane_11 (by decide +kernel), s_mo_push _ _⟩, (List.forall_mem_cons.mpr ⟨⟨s_icge dX2_nextPane_12 (by decide), s_mo_icge _ _⟩, (List.forall_mem_cons.mpr ⟨⟨s_ldAn dX2_nextPane_15 rfl, s_mo_ldA _ _⟩, (List.forall_mem_cons.mpr ⟨⟨s_ldIn dX2_nextPane_16 rfl, s_mo_ldI _ _⟩, (List.forall_mem_cons.mpr ⟨⟨s_ldI dX2_nextPane_17, s_mo_ldI _ _⟩, (List.forall_mem_cons.mpr ⟨⟨s_sV mk_25 mk_3 ok_3 (by decide +kernel) dX2_nextPane_19 w_1105 w_1034 w_1035 (Or.inr ⟨0, _, _, rfl, rfl⟩), s_h0 mk_25⟩, (List.forall_mem_cons.mpr ⟨⟨s_stI dX2_nextPane_22, s_mo_stI _ _⟩, (List.forall_mem_cons.mpr ⟨⟨s_ldI dX2_nextPane_24, s_mo_ldI _ _⟩, (List.forall_mem_cons.mpr ⟨⟨s_iconst dX2_nextPane_26 (by decide +kernel), s_mo_push _ _⟩, (List.forall_mem_cons.mpr ⟨⟨s_iceq dX2_nextPane_27 (by decide), s_mo_iceq _ _⟩, (List.forall_mem_cons.mpr ⟨⟨s_ldIn dX2_nextPane_30 rfl, s_mo_ldI _ _⟩, (List.forall_mem_cons.mpr ⟨⟨s_ldI dX2_nextPane_31, s_mo_ldI _ _⟩, (List.forall_mem_cons.mpr ⟨⟨s_ishr dX2_nextPane_33, s_mo_bin _ _⟩, (List.forall_mem_cons.mpr ⟨⟨s_iconst dX2_nextPane_34 (by decide +kernel), s_mo_push _ _⟩, (List.forall_mem_cons.mpr ⟨⟨s_iand dX2_nextPane_35, s_mo_bin _ _⟩, (List.forall_mem_cons.mpr ⟨⟨s_ifne dX2_nextPane_36 (by decide), s_mo_ifne _ _⟩, (List.forall_mem_cons.mpr ⟨⟨s_goto dX2_nextPane_39 (by decide), s_mo_goto _⟩, (List.forall_mem_cons.mpr ⟨⟨s_ldAn dX2_nextPane_42 rfl, s_mo_ldA _ _⟩, (List.forall_mem_cons.mpr ⟨⟨s_getf (ci := 0) (k := 7) rfl (by decide) inX0 w_80 dX2_nextPane_43, s_mo_getf _ _ _⟩, (List.forall_mem_cons.mpr ⟨⟨s_ldI dX2_nextPane_46, s_mo_ldI _ _⟩, (List.forall_mem_cons.mpr ⟨⟨s_iald dX2_nextPane_48, s_mo_iald _⟩, (List.forall_mem_cons.mpr ⟨⟨s_ldAn dX2_nextPane_49 rfl, s_mo_ldA _ _⟩, (List.forall_mem_cons.mpr ⟨⟨s_getf (ci := 0) (k := 7) rfl (by decide) inX0 w_80 dX2_nextPane_50, s_mo_getf _ _ _⟩, (List.forall_mem_cons.mpr ⟨⟨s_ldIn dX2_nextPane_53 rfl, s_mo_ldI _ _⟩, (List.forall_mem_cons.mpr ⟨⟨s_iald dX2_nextPane_54, s_mo_iald _⟩, (List.forall_mem_cons.mpr ⟨⟨s_isub dX2_nextPane_55, s_mo_bin _ _⟩, (List.forall_mem_cons.mpr ⟨⟨s_mb w_1106 ws_mb w_mi wc_mb dX2_nextPane_56, s_mo_mb _⟩, (List.forall_mem_cons.mpr ⟨⟨s_stI dX2_nextPane_59, s_mo_stI _ _⟩, (List.forall_mem_cons.mpr ⟨⟨s_ldI dX2_nextPane_61, s_mo_ldI _ _⟩, (List.forall_mem_cons.mpr ⟨⟨s_iconst dX2_nextPane_63 (by decide +kernel), s_mo_push _ _⟩, (fun _ h => absurd h List.not_mem_nil)⟩)⟩)⟩)⟩)⟩)⟩)⟩)⟩)⟩)⟩)⟩)⟩)⟩)⟩)⟩)⟩)⟩)⟩)⟩)⟩)⟩)⟩)⟩)⟩)⟩)⟩)⟩)⟩)⟩)⟩)⟩)⟩)⟩)⟩)⟩)⟩)⟩)
set_option maxRecDepth 20000 in
theorem kb_25_1 : ∀ q ∈ tb_25_1, s_atx 25 yX2_nextPane cX2_nextPane q.1 q.2 := (List.forall_mem_cons.mpr ⟨⟨s_ldAn dX2_nextPane_64 rfl, s_mo_ldA _ _⟩, (List.forall_mem_cons.mpr ⟨⟨s_getf (ci := 0) (k := 6) rfl (by decide) inX0 w_72 dX2_nextPane_65, s_mo_getf _ _ _⟩, (List.forall_mem_cons.mpr ⟨⟨s_ldI dX2_nextPane_68, s_mo_ldI _ _⟩, (List.forall_mem_cons.mpr ⟨⟨s_iald dX2_nextPane_70, s_mo_iald _⟩, (List.forall_mem_cons.mpr ⟨⟨s_imul dX2_nextPane_71, s_mo_bin _ _⟩, (List.forall_mem_cons.mpr ⟨⟨s_isub dX2_nextPane_72, s_mo_bin _ _⟩, (List.forall_mem_cons.mpr ⟨⟨s_stI dX2_nextPane_73, s_mo_stI _ _⟩, (List.forall_mem_cons.mpr ⟨⟨s_ldI dX2_nextPane_75, s_mo_ldI _ _⟩, (List.forall_mem_cons.mpr ⟨⟨s_ldAn dX2_nextPane_77 rfl, s_mo_ldA _ _⟩, (List.forall_mem_cons.mpr ⟨⟨s_getf (ci := 0) (k := 16) rfl (by decide) inX0 w_118 dX2_nextPane_78, s_mo_getf _ _ _⟩, (List.forall_mem_cons.mpr ⟨⟨s_icge dX2_nextPane_81 (by decide), s_mo_icge _ _⟩, (List.forall_mem_cons.mpr ⟨⟨s_goto dX2_nextPane_84 (by decide), s_mo_goto _⟩, (List.forall_mem_cons.mpr ⟨⟨s_ldI dX2_nextPane_87, s_mo_ldI _ _⟩, (List.forall_mem_cons.mpr ⟨⟨s_ifgt dX2_nextPane_89 (by decide), s_mo_ifgt _ _⟩, (List.forall_mem_cons.mpr ⟨⟨s_ldAn dX2_nextPane_92 rfl, s_mo_ldA _ _⟩, (List.forall_mem_cons.mpr ⟨⟨s_ldAn dX2_nextPane_93 rfl, s_mo_ldA _ _⟩, (List.forall_mem_cons.mpr ⟨⟨s_getf (ci := 1) (k := 0) rfl (by decide) inX2 w_245 dX2_nextPane_94, s_mo_getf _ _ _⟩, (List.forall_mem_cons.mpr ⟨⟨s_iconst dX2_nextPane_97 (by decide +kernel), s_mo_push _ _⟩, (List.forall_mem_cons.mpr ⟨⟨s_ldI dX2_nextPane_98, s_mo_ldI _ _⟩, (List.forall_mem_cons.mpr ⟨⟨s_isub dX2_nextPane_100, s_mo_bin _ _⟩, (List.forall_mem_cons.mpr ⟨⟨s_mn w_1107 ws_mn w_mi wc_mn dX2_nextPane_101, s_mo_mn _⟩, (List.forall_mem_cons.mpr ⟨⟨s_putI (ci := 1) (k := 0) rfl (by decide) inX2 tyX2_ok nmX2 rfl rfl w_245 dX2_nextPane_104, s_mo_putI _ _ _⟩, (List.forall_mem_cons.mpr ⟨⟨s_goto dX2_nextPane_107 (by decide), s_mo_goto _⟩, (List.forall_mem_cons.mpr ⟨⟨s_ldI dX2_nextPane_110, s_mo_ldI _ _⟩, (List.forall_mem_cons.mpr ⟨⟨s_ldI dX2_nextPane_112, s_mo_ldI _ _⟩, (List.forall_mem_cons.mpr ⟨⟨s_icle dX2_nextPane_114 (by decide), s_mo_icle _ _⟩, (List.forall_mem_cons.mpr ⟨⟨s_ldI dX2_nextPane_117, s_mo_ldI _ _⟩, (List.forall_mem_cons.mpr ⟨⟨s_stI dX2_nextPane_119, s_mo_stI _ _⟩, (List.forall_mem_cons.mpr ⟨⟨s_ldI dX2_nextPane_121, s_mo_ldI _ _⟩, (List.forall_mem_cons.mpr ⟨⟨s_stI dX2_nextPane_123, s_mo_stI _ _⟩, (List.forall_mem_cons.mpr ⟨⟨s_inc dX2_nextPane_125 (by decide +kernel), s_mo_inc _ _ _⟩, (fun _ h => absurd h List.not_mem_nil)⟩)⟩)⟩)⟩)⟩)⟩)⟩)⟩)⟩)⟩)⟩)⟩)⟩)⟩)⟩)⟩)⟩)⟩)⟩)⟩)⟩)⟩)⟩)⟩)⟩)⟩)⟩)⟩)⟩)⟩)⟩)
set_option maxRecDepth 20000 in
theorem kb_25_2 : ∀ q ∈ tb_25_2, s_atx 25 yX2_nextPane cX2_nextPane q.1 q.2 := (List.forall_mem_cons.mpr ⟨⟨s_goto dX2_nextPane_128 (by decide), s_mo_goto _⟩, (List.forall_mem_cons.mpr ⟨⟨s_ldI dX2_nextPane_131, s_mo_ldI _ _⟩, (List.forall_mem_cons.mpr ⟨s_r1 mk_25 dX2_nextPane_133, (fun _ h => absurd h List.not_mem_nil)⟩)⟩)⟩)
theorem km_25 : ∀ t ∈ tm_25, s_tok 25 t := (List.forall_mem_cons.mpr ⟨s_lift mk_25 kb_25_0, (List.forall_mem_cons.mpr ⟨s_lift mk_25 kb_25_1, (List.forall_mem_cons.mpr ⟨s_lift mk_25 kb_25_2, (fun _ h => absurd h List.not_mem_nil)⟩)⟩)⟩)
theorem dX2_countBack_0 : decode cX2_countBack 0 = .ok (.iconst 0, 1) := by decide +kernel
theorem dX2_countBack_1 : decode cX2_countBack 1 = .ok (.istore 4, 2) := by decide +kernel
theorem dX2_countBack_3 : decode cX2_countBack 3 = .ok (.iconst 0, 1) := by decide +kernel
theorem dX2_countBack_4 : decode cX2_countBack 4 = .ok (.istore 5, 2) := by decide +kernel
theorem dX2_countBack_6 : decode cX2_countBack 6 = .ok (.iload 5, 2) := by decide +kernel
theorem dX2_countBack_8 : decode cX2_countBack 8 = .ok (.aload_n 1, 1) := by decide +kernel
theorem dX2_countBack_9 : decode cX2_countBack 9 = .ok (.getfield 56, 3) := by decide +kernel
theorem dX2_countBack_12 : decode cX2_countBack 12 = .ok (.if_icmp .ge 104, 3) := by decide +kernel
theorem dX2_countBack_15 : decode cX2_countBack 15 = .ok (.aload_n 1, 1) := by decide +kernel
theorem dX2_countBack_16 : decode cX2_countBack 16 = .ok (.iload 5, 2) := by decide +kernel
theorem dX2_countBack_18 : decode cX2_countBack 18 = .ok (.invokevirtual 15, 3) := by decide +kernel
theorem dX2_countBack_21 : decode cX2_countBack 21 = .ok (.iload_n 3, 1) := by decide +kernel
theorem dX2_countBack_22 : decode cX2_countBack 22 = .ok (.invokestatic 53, 3) := by decide +kernel
theorem dX2_countBack_25 : decode cX2_countBack 25 = .ok (.istore 6, 2) := by decide +kernel
theorem dX2_countBack_27 : decode cX2_countBack 27 = .ok (.iload_n 2, 1) := by decide +kernel
theorem dX2_countBack_28 : decode cX2_countBack 28 = .ok (.ifCond .ne 10, 3) := by decide +kernel
theorem dX2_countBack_31 : decode cX2_countBack 31 = .ok (.iload 4, 2) := by decide +kernel
theorem dX2_countBack_33 : decode cX2_countBack 33 = .ok (.iload 6, 2) := by decide +kernel
theorem dX2_countBack_35 : decode cX2_countBack 35 = .ok (.iadd, 1) := by decide +kernel
theorem dX2_countBack_36 : decode cX2_countBack 36 = .ok (.istore 4, 2) := by decide +kernel
theorem dX2_countBack_38 : decode cX2_countBack 38 = .ok (.aload_n 1, 1) := by decide +kernel
theorem dX2_countBack_39 : decode cX2_countBack 39 = .ok (.iload 5, 2) := by decide +kernel
theorem dX2_countBack_41 : decode cX2_countBack 41 = .ok (.iload_n 2, 1) := by decide +kernel
theorem dX2_countBack_42 : decode cX2_countBack 42 = .ok (.invokestatic 59, 3) := by decide +kernel
theorem dX2_countBack_45 : decode cX2_countBack 45 = .ok (.ifCond .eq 6, 3) := by decide +kernel
theorem dX2_countBack_48 : decode cX2_countBack 48 = .ok (.goto 62, 3) := by decide +kernel
theorem dX2_countBack_51 : decode cX2_countBack 51 = .ok (.iload 6, 2) := by decide +kernel
theorem dX2_countBack_53 : decode cX2_countBack 53 = .ok (.iconst 1, 1) := by decide +kernel
theorem dX2_countBack_54 : decode cX2_countBack 54 = .ok (.iadd, 1) := by decide +kernel
theorem dX2_countBack_55 : decode cX2_countBack 55 = .ok (.istore 7, 2) := by decide +kernel
theorem dX2_countBack_57 : decode cX2_countBack 57 = .ok (.iload 7, 2) := by decide +kernel
theorem dX2_countBack_59 : decode cX2_countBack 59 = .ok (.iload_n 3, 1) := by decide +kernel
theorem dX2_countBack_60 : decode cX2_countBack 60 = .ok (.if_icmp .gt 50, 3) := by decide +kernel
theorem dX2_countBack_63 : decode cX2_countBack 63 = .ok (.aload_n 0, 1) := by decide +kernel
theorem dX2_countBack_64 : decode cX2_countBack 64 = .ok (.aload_n 1, 1) := by decide +kernel
theorem dX2_countBack_65 : decode cX2_countBack 65 = .ok (.iload 5, 2) := by decide +kernel
theorem dX2_countBack_67 : decode cX2_countBack 67 = .ok (.iload 7, 2) := by decide +kernel
theorem dX2_countBack_69 : decode cX2_countBack 69 = .ok (.invokevirtual 63, 3) := by decide +kernel
theorem dX2_countBack_72 : decode cX2_countBack 72 = .ok (.iload_n 2, 1) := by decide +kernel
theorem dX2_countBack_73 : decode cX2_countBack 73 = .ok (.if_icmp .ne 21, 3) := by decide +kernel
theorem dX2_countBack_76 : decode cX2_countBack 76 = .ok (.iload 4, 2) := by decide +kernel
theorem dX2_countBack_78 : decode cX2_countBack 78 = .ok (.aload_n 0, 1) := by decide +kernel
theorem dX2_countBack_79 : decode cX2_countBack 79 = .ok (.getfield 11, 3) := by decide +kernel
theorem dX2_countBack_82 : decode cX2_countBack 82 = .ok (.iload_n 3, 1) := by decide +kernel
theorem dX2_countBack_83 : decode cX2_countBack 83 = .ok (.iload 7, 2) := by decide +kernel
theorem dX2_countBack_85 : decode cX2_countBack 85 = .ok (.isub, 1) := by decide +kernel
theorem dX2_countBack_86 : decode cX2_countBack 86 = .ok (.iconst 1, 1) := by decide +kernel
theorem dX2_countBack_87 : decode cX2_countBack 87 = .ok (.iadd, 1) := by decide +kernel
theorem dX2_countBack_88 : decode cX2_countBack 88 = .ok (.invokestatic 53, 3) := by decide +kernel
theorem dX2_countBack_91 : decode cX2_countBack 91 = .ok (.iadd, 1) := by decide +kernel
theorem dX2_countBack_92 : decode cX2_countBack 92 = .ok (.istore 4, 2) := by decide +kernel
theorem dX2_countBack_94 : decode cX2_countBack 94 = .ok (.iload 7, 2) := by decide +kernel
theorem dX2_countBack_96 : decode cX2_countBack 96 = .ok (.aload_n 0, 1) := by decide +kernel
theorem dX2_countBack_97 : decode cX2_countBack 97 = .ok (.getfield 11, 3) := by decide +kernel
theorem dX2_countBack_100 : decode cX2_countBack 100 = .ok (.iconst 1, 1) := by decide +kernel
theorem dX2_countBack_101 : decode cX2_countBack 101 = .ok (.invokestatic 67, 3) := by decide +kernel
theorem dX2_countBack_104 : decode cX2_countBack 104 = .ok (.iadd, 1) := by decide +kernel
theorem dX2_countBack_105 : decode cX2_countBack 105 = .ok (.istore 7, 2) := by decide +kernel
theorem dX2_countBack_107 : decode cX2_countBack 107 = .ok (.goto (-50), 3) := by decide +kernel
theorem dX2_countBack_110 : decode cX2_countBack 110 = .ok (.iinc 5 1, 3) := by decide +kernel
theorem dX2_countBack_113 : decode cX2_countBack 113 = .ok (.goto (-107), 3) := by decide +kernel
theorem dX2_countBack_116 : decode cX2_countBack 116 = .ok (.iload 4, 2) := by decide +kernel
theorem dX2_countBack_118 : decode cX2_countBack 118 = .ok (.ireturn, 1) := by decide +kernel
set_option maxRecDepth 20000 in
theorem kb_26_0 : ∀ q ∈ tb_26_0, s_atx 26 yX2_countBack cX2_countBack q.1 q.2 := (List.forall_mem_cons.mpr ⟨⟨s_iconst dX2_countBack_0 (by decide +kernel), s_mo_push _ _⟩, (List.forall_mem_cons.mpr ⟨⟨s_stI dX2_countBack_1, s_mo_stI _ _⟩, (List.forall_mem_cons.mpr ⟨⟨s_iconst dX2_countBack_3 (by decide +kernel), s_mo_push _ _⟩, (List.forall_mem_cons.mpr ⟨⟨s_stI dX2_countBack_4, s_mo_stI _ _⟩, (List.forall_mem_cons.mpr ⟨⟨s_ldI dX2_countBack_6, s_mo_ldI _ _⟩, (List.forall_mem_cons.mpr ⟨⟨s_ldAn dX2_countBack_8 rfl, s_mo_ldA _ _⟩, (List.forall_mem_cons.mpr ⟨⟨s_getf (ci := 0) (k := 2) rfl (by decide) inX0 w_61 dX2_countBack_9, s_mo_getf _ _ _⟩, (List.forall_mem_cons.mpr ⟨⟨s_icge dX2_countBack_12 (by decide), s_mo_icge _ _⟩, (List.forall_mem_cons.mpr ⟨⟨s_ldAn dX2_countBack_15 rfl, s_mo_ldA _ _⟩, (List.forall_mem_cons.mpr ⟨⟨s_ldI dX2_countBack_16, s_mo_ldI _ _⟩, (List.forall_mem_cons.mpr ⟨⟨s_sV mk_26 mk_7 ok_7 (by decide +kernel) dX2_countBack_18 w_1099 w_782 w_783 (Or.inr ⟨0, _, _, rfl, rfl⟩), s_h0 mk_26⟩, (List.forall_mem_cons.mpr ⟨⟨s_ldIn dX2_countBack_21 rfl, s_mo_ldI _ _⟩, (List.forall_mem_cons.mpr ⟨⟨s_mn w_1107 ws_mn w_mi wc_mn dX2_countBack_22, s_mo_mn _⟩, (List.forall_mem_cons.mpr ⟨⟨s_stI dX2_countBack_25, s_mo_stI _ _⟩, (List.forall_mem_cons.mpr ⟨⟨s_ldIn dX2_countBack_27 rfl, s_mo_ldI _ _⟩, (List.forall_mem_cons.mpr ⟨⟨s_ifne dX2_countBack_28 (by decide), s_mo_ifne _ _⟩, (List.forall_mem_cons.mpr ⟨⟨s_ldI dX2_countBack_31, s_mo_ldI _ _⟩, (List.forall_mem_cons.mpr ⟨⟨s_ldI dX2_countBack_33, s_mo_ldI _ _⟩, (List.forall_mem_cons.mpr ⟨⟨s_iadd dX2_countBack_35, s_mo_bin _ _⟩, (List.forall_mem_cons.mpr ⟨⟨s_stI dX2_countBack_36, s_mo_stI _ _⟩, (List.forall_mem_cons.mpr ⟨⟨s_ldAn dX2_countBack_38 rfl, s_mo_ldA _ _⟩, (List.forall_mem_cons.mpr ⟨⟨s_ldI dX2_countBack_39, s_mo_ldI _ _⟩, (List.forall_mem_cons.mpr ⟨⟨s_ldIn dX2_countBack_41 rfl, s_mo_ldI _ _⟩, (List.forall_mem_cons.mpr ⟨⟨s_sS mk_26 mk_28 ok_28 (by decide +kernel) dX2_countBack_42 w_1126 w_1127, s_h0 mk_26⟩, (List.forall_mem_cons.mpr ⟨⟨s_ifeq dX2_countBack_45 (by decide), s_mo_ifeq _ _⟩, (List.forall_mem_cons.mpr ⟨⟨s_goto dX2_countBack_48 (by decide), s_mo_goto _⟩, (List.forall_mem_cons.mpr ⟨⟨s_ldI dX2_countBack_51, s_mo_ldI _ _⟩, (List.forall_mem_cons.mpr ⟨⟨s_iconst dX2_countBack_53 (by decide +kernel), s_mo_push _ _⟩, (List.forall_mem_cons.mpr ⟨⟨s_iadd dX2_countBack_54, s_mo_bin _ _⟩, (List.forall_mem_cons.mpr ⟨⟨s_stI dX2_countBack_55, s_mo_stI _ _⟩, (List.forall_mem_cons.mpr ⟨⟨s_ldI dX2_countBack_57, s_mo_ldI _ _⟩, (List.forall_mem_cons.mpr ⟨⟨s_ldIn dX2_countBack_59 rfl, s_mo_ldI _ _⟩, (List.forall_mem_cons.mpr ⟨⟨s_icgt dX2_countBack_60 (by decide), s_mo_icgt _ _⟩, (List.forall_mem_cons.mpr ⟨⟨s_ldAn dX2_countBack_63 rfl, s_mo_ldA _ _⟩, (fun _ h => absurd h List.not_mem_nil)⟩)⟩)⟩)⟩)⟩)⟩)⟩)⟩)⟩)⟩)⟩)⟩)⟩)⟩)⟩)⟩)⟩)⟩)⟩)⟩)⟩)⟩)⟩)⟩)⟩)⟩)⟩)⟩)⟩)⟩)⟩)⟩)⟩)⟩)
set_option maxRecDepth 20000 in
theorem kb_26_1 : ∀ q ∈ tb_26_1, s_atx 26 yX2_countBack cX2_countBack q.1 q.2 := (List.forall_mem_cons.mpr ⟨⟨s_ldAn dX2_countBack_64 rfl, s_mo_ldA _ _⟩, (List.forall_mem_cons.mpr ⟨⟨s_ldI dX2_countBack_65, s_mo_ldI _ _⟩, (List.forall_mem_cons.mpr ⟨⟨s_ldI dX2_countBack_67, s_mo_ldI _ _⟩, (List.forall_mem_cons.mpr ⟨⟨s_sV mk_26 mk_24 ok_24 (by decide +kernel) dX2_countBack_69 w_1129 w_1096 w_1097 (Or.inr ⟨1, _, _, rfl, rfl⟩), s_h0 mk_26⟩, (List.forall_mem_cons.mpr ⟨⟨s_ldIn dX2_countBack_72 rfl, s_mo_ldI _ _⟩, (List.forall_mem_cons.mpr ⟨⟨s_icne dX2_countBack_73 (by decide), s_mo_icne _ _⟩, (List.forall_mem_cons.mpr ⟨⟨s_ldI dX2_countBack_76, s_mo_ldI _ _⟩, (List.forall_mem_cons.mpr ⟨⟨s_ldAn dX2_countBack_78 rfl, s_mo_ldA _ _⟩, (List.forall_mem_cons.mpr ⟨⟨s_getf (ci := 1) (k := 0) rfl (by decide) inX2 w_245 dX2_countBack_79, s_mo_getf _ _ _⟩, (List.forall_mem_cons.mpr ⟨⟨s_ldIn dX2_countBack_82 rfl, s_mo_ldI _ _⟩, (List.forall_mem_cons.mpr ⟨⟨s_ldI dX2_countBack_83, s_mo_ldI _ _⟩, (List.forall_mem_cons.mpr ⟨⟨s_isub dX2_countBack_85, s_mo_bin _ _⟩, (List.forall_mem_cons.mpr ⟨⟨s_iconst dX2_countBack_86 (by decide +kernel), s_mo_push _ _⟩, (List.forall_mem_cons.mpr ⟨⟨s_iadd dX2_countBack_87, s_mo_bin _ _⟩, (List.forall_mem_cons.mpr ⟨⟨s_mn w_1107 ws_mn w_mi wc_mn dX2_countBack_88, s_mo_mn _⟩, (List.forall_mem_cons.mpr ⟨⟨s_iadd dX2_countBack_91, s_mo_bin _ _⟩, (List.forall_mem_cons.mpr ⟨⟨s_stI dX2_countBack_92, s_mo_stI _ _⟩, (List.forall_mem_cons.mpr ⟨⟨s_ldI dX2_countBack_94, s_mo_ldI _ _⟩, (List.forall_mem_cons.mpr ⟨⟨s_ldAn dX2_countBack_96 rfl, s_mo_ldA _ _⟩, (List.forall_mem_cons.mpr ⟨⟨s_getf (ci := 1) (k := 0) rfl (by decide) inX2 w_245 dX2_countBack_97, s_mo_getf _ _ _⟩, (List.forall_mem_cons.mpr ⟨⟨s_iconst dX2_countBack_100 (by decide +kernel), s_mo_push _ _⟩, (List.forall_mem_cons.mpr ⟨⟨s_mx w_1130 ws_mx w_mi wc_mx dX2_countBack_101, s_mo_mx _⟩, (List.forall_mem_cons.mpr ⟨⟨s_iadd dX2_countBack_104, s_mo_bin _ _⟩, (List.forall_mem_cons.mpr ⟨⟨s_stI dX2_countBack_105, s_mo_stI _ _⟩, (List.forall_mem_cons.mpr ⟨⟨s_goto dX2_countBack_107 (by decide), s_mo_goto _⟩, (List.forall_mem_cons.mpr ⟨⟨s_inc dX2_countBack_110 (by decide +kernel), s_mo_inc _ _ _⟩, (List.forall_mem_cons.mpr ⟨⟨s_goto dX2_countBack_113 (by decide), s_mo_goto _⟩, (List.forall_mem_cons.mpr ⟨⟨s_ldI dX2_countBack_116, s_mo_ldI _ _⟩, (List.forall_mem_cons.mpr ⟨s_r1 mk_26 dX2_countBack_118, (fun _ h => absurd h List.not_mem_nil)⟩)⟩)⟩)⟩)⟩)⟩)⟩)⟩)⟩)⟩)⟩)⟩)⟩)⟩)⟩)⟩)⟩)⟩)⟩)⟩)⟩)⟩)⟩)⟩)⟩)⟩)⟩)⟩)⟩)
theorem km_26 : ∀ t ∈ tm_26, s_tok 26 t := (List.forall_mem_cons.mpr ⟨s_lift mk_26 kb_26_0, (List.forall_mem_cons.mpr ⟨s_lift mk_26 kb_26_1, (fun _ h => absurd h List.not_mem_nil)⟩)⟩)
theorem dX2_firstBack_0 : decode cX2_firstBack 0 = .ok (.iconst 0, 1) := by decide +kernel
theorem dX2_firstBack_1 : decode cX2_firstBack 1 = .ok (.istore 4, 2) := by decide +kernel
theorem dX2_firstBack_3 : decode cX2_firstBack 3 = .ok (.iload 4, 2) := by decide +kernel
theorem dX2_firstBack_5 : decode cX2_firstBack 5 = .ok (.aload_n 1, 1) := by decide +kernel
theorem dX2_firstBack_6 : decode cX2_firstBack 6 = .ok (.getfield 56, 3) := by decide +kernel
theorem dX2_firstBack_9 : decode cX2_firstBack 9 = .ok (.if_icmp .ge 103, 3) := by decide +kernel
theorem dX2_firstBack_12 : decode cX2_firstBack 12 = .ok (.aload_n 1, 1) := by decide +kernel
theorem dX2_firstBack_13 : decode cX2_firstBack 13 = .ok (.iload 4, 2) := by decide +kernel
theorem dX2_firstBack_15 : decode cX2_firstBack 15 = .ok (.invokevirtual 15, 3) := by decide +kernel
theorem dX2_firstBack_18 : decode cX2_firstBack 18 = .ok (.iload_n 3, 1) := by decide +kernel
theorem dX2_firstBack_19 : decode cX2_firstBack 19 = .ok (.invokestatic 53, 3) := by decide +kernel
theorem dX2_firstBack_22 : decode cX2_firstBack 22 = .ok (.istore 5, 2) := by decide +kernel
theorem dX2_firstBack_24 : decode cX2_firstBack 24 = .ok (.iload_n 2, 1) := by decide +kernel
theorem dX2_firstBack_25 : decode cX2_firstBack 25 = .ok (.ifCond .ne 17, 3) := by decide +kernel
theorem dX2_firstBack_28 : decode cX2_firstBack 28 = .ok (.iload 5, 2) := by decide +kernel
theorem dX2_firstBack_30 : decode cX2_firstBack 30 = .ok (.ifCond .le 12, 3) := by decide +kernel
theorem dX2_firstBack_33 : decode cX2_firstBack 33 = .ok (.sipush 1000, 3) := by decide +kernel
theorem dX2_firstBack_36 : decode cX2_firstBack 36 = .ok (.iload 4, 2) := by decide +kernel
theorem dX2_firstBack_38 : decode cX2_firstBack 38 = .ok (.imul, 1) := by decide +kernel
theorem dX2_firstBack_39 : decode cX2_firstBack 39 = .ok (.iconst 1, 1) := by decide +kernel
theorem dX2_firstBack_40 : decode cX2_firstBack 40 = .ok (.iadd, 1) := by decide +kernel
theorem dX2_firstBack_41 : decode cX2_firstBack 41 = .ok (.ireturn, 1) := by decide +kernel
theorem dX2_firstBack_42 : decode cX2_firstBack 42 = .ok (.aload_n 1, 1) := by decide +kernel
theorem dX2_firstBack_43 : decode cX2_firstBack 43 = .ok (.iload 4, 2) := by decide +kernel
theorem dX2_firstBack_45 : decode cX2_firstBack 45 = .ok (.iload_n 2, 1) := by decide +kernel
theorem dX2_firstBack_46 : decode cX2_firstBack 46 = .ok (.invokestatic 59, 3) := by decide +kernel
theorem dX2_firstBack_49 : decode cX2_firstBack 49 = .ok (.ifCond .eq 6, 3) := by decide +kernel
theorem dX2_firstBack_52 : decode cX2_firstBack 52 = .ok (.goto 54, 3) := by decide +kernel
theorem dX2_firstBack_55 : decode cX2_firstBack 55 = .ok (.iload 5, 2) := by decide +kernel
theorem dX2_firstBack_57 : decode cX2_firstBack 57 = .ok (.iconst 1, 1) := by decide +kernel
theorem dX2_firstBack_58 : decode cX2_firstBack 58 = .ok (.iadd, 1) := by decide +kernel
theorem dX2_firstBack_59 : decode cX2_firstBack 59 = .ok (.istore 6, 2) := by decide +kernel
theorem dX2_firstBack_61 : decode cX2_firstBack 61 = .ok (.iload 6, 2) := by decide +kernel
theorem dX2_firstBack_63 : decode cX2_firstBack 63 = .ok (.iload_n 3, 1) := by decide +kernel
theorem dX2_firstBack_64 : decode cX2_firstBack 64 = .ok (.if_icmp .gt 42, 3) := by decide +kernel
theorem dX2_firstBack_67 : decode cX2_firstBack 67 = .ok (.aload_n 0, 1) := by decide +kernel
theorem dX2_firstBack_68 : decode cX2_firstBack 68 = .ok (.aload_n 1, 1) := by decide +kernel
theorem dX2_firstBack_69 : decode cX2_firstBack 69 = .ok (.iload 4, 2) := by decide +kernel
theorem dX2_firstBack_71 : decode cX2_firstBack 71 = .ok (.iload 6, 2) := by decide +kernel
theorem dX2_firstBack_73 : decode cX2_firstBack 73 = .ok (.invokevirtual 63, 3) := by decide +kernel
theorem dX2_firstBack_76 : decode cX2_firstBack 76 = .ok (.iload_n 2, 1) := by decide +kernel
theorem dX2_firstBack_77 : decode cX2_firstBack 77 = .ok (.if_icmp .ne 13, 3) := by decide +kernel
theorem dX2_firstBack_80 : decode cX2_firstBack 80 = .ok (.sipush 1000, 3) := by decide +kernel
theorem dX2_firstBack_83 : decode cX2_firstBack 83 = .ok (.iload 4, 2) := by decide +kernel
theorem dX2_firstBack_85 : decode cX2_firstBack 85 = .ok (.imul, 1) := by decide +kernel
theorem dX2_firstBack_86 : decode cX2_firstBack 86 = .ok (.iload 6, 2) := by decide +kernel
theorem dX2_firstBack_88 : decode cX2_firstBack 88 = .ok (.iadd, 1) := by decide +kernel
theorem dX2_firstBack_89 : decode cX2_firstBack 89 = .ok (.ireturn, 1) := by decide +kernel
theorem dX2_firstBack_90 : decode cX2_firstBack 90 = .ok (.iload 6, 2) := by decide +kernel
theorem dX2_firstBack_92 : decode cX2_firstBack 92 = .ok (.aload_n 0, 1) := by decide +kernel
theorem dX2_firstBack_93 : decode cX2_firstBack 93 = .ok (.getfield 11, 3) := by decide +kernel
theorem dX2_firstBack_96 : decode cX2_firstBack 96 = .ok (.iconst 1, 1) := by decide +kernel
theorem dX2_firstBack_97 : decode cX2_firstBack 97 = .ok (.invokestatic 67, 3) := by decide +kernel
theorem dX2_firstBack_100 : decode cX2_firstBack 100 = .ok (.iadd, 1) := by decide +kernel
theorem dX2_firstBack_101 : decode cX2_firstBack 101 = .ok (.istore 6, 2) := by decide +kernel
theorem dX2_firstBack_103 : decode cX2_firstBack 103 = .ok (.goto (-42), 3) := by decide +kernel
theorem dX2_firstBack_106 : decode cX2_firstBack 106 = .ok (.iinc 4 1, 3) := by decide +kernel
theorem dX2_firstBack_109 : decode cX2_firstBack 109 = .ok (.goto (-106), 3) := by decide +kernel
theorem dX2_firstBack_112 : decode cX2_firstBack 112 = .ok (.iconst (-1), 1) := by decide +kernel
theorem dX2_firstBack_113 : decode cX2_firstBack 113 = .ok (.ireturn, 1) := by decide +kernel
set_option maxRecDepth 20000 in
theorem kb_27_0 : ∀ q ∈ tb_27_0, s_atx 27 yX2_firstBack cX2_firstBack q.1 q.2 := (List.forall_mem_cons.mpr ⟨⟨s_iconst dX2_firstBack_0 (by decide +kernel), s_mo_push _ _⟩, (List.forall_mem_cons.mpr ⟨⟨s_stI dX2_firstBack_1, s_mo_stI _ _⟩, (List.forall_mem_cons.mpr ⟨⟨s_ldI dX2_firstBack_3, s_mo_ldI _ _⟩, (List.forall_mem_cons.mpr ⟨⟨s_ldAn dX2_firstBack_5 rfl, s_mo_ldA _ _⟩, (List.forall_mem_cons.mpr ⟨⟨s_getf (ci := 0) (k := 2) rfl (by decide) inX0 w_61 dX2_firstBack_6, s_mo_getf _ _ _⟩, (List.forall_mem_cons.mpr ⟨⟨s_icge dX2_firstBack_9 (by decide), s_mo_icge _ _⟩, (List.forall_mem_cons.mpr ⟨⟨s_ldAn dX2_firstBack_12 rfl, s_mo_ldA _ _⟩, (List.forall_mem_cons.mpr ⟨⟨s_ldI dX2_firstBack_13, s_mo_ldI _ _⟩, (List.forall_mem_cons.mpr ⟨⟨s_sV mk_27 mk_7 ok_7 (by decide +kernel) dX2_firstBack_15 w_1099 w_782 w_783 (Or.inr ⟨0, _, _, rfl, rfl⟩), s_h0 mk_27⟩, (List.forall_mem_cons.mpr ⟨⟨s_ldIn dX2_firstBack_18 rfl, s_mo_ldI _ _⟩, (List.forall_mem_cons.mpr ⟨⟨s_mn w_1107 ws_mn w_mi wc_mn dX2_firstBack_19, s_mo_mn _⟩, (List.forall_mem_cons.mpr ⟨⟨s_stI dX2_firstBack_22, s_mo_stI _ _⟩, (List.forall_mem_cons.mpr ⟨⟨s_ldIn dX2_firstBack_24 rfl, s_mo_ldI _ _⟩, (List.forall_mem_cons.mpr ⟨⟨s_ifne dX2_firstBack_25 (by decide), s_mo_ifne _ _⟩, (List.forall_mem_cons.mpr ⟨⟨s_ldI dX2_firstBack_28, s_mo_ldI _ _⟩, (List.forall_mem_cons.mpr ⟨⟨s_ifle dX2_firstBack_30 (by decide), s_mo_ifle _ _⟩, (List.forall_mem_cons.mpr ⟨⟨s_sipush dX2_firstBack_33 (by decide +kernel), s_mo_push _ _⟩, (List.forall_mem_cons.mpr ⟨⟨s_ldI dX2_firstBack_36, s_mo_ldI _ _⟩, (List.forall_mem_cons.mpr ⟨⟨s_imul dX2_firstBack_38, s_mo_bin _ _⟩, (List.forall_mem_cons.mpr ⟨⟨s_iconst dX2_firstBack_39 (by decide +kernel), s_mo_push _ _⟩, (List.forall_mem_cons.mpr ⟨⟨s_iadd dX2_firstBack_40, s_mo_bin _ _⟩, (List.forall_mem_cons.mpr ⟨s_r1 mk_27 dX2_firstBack_41, (List.forall_mem_cons.mpr ⟨⟨s_ldAn dX2_firstBack_42 rfl, s_mo_ldA _ _⟩, (List.forall_mem_cons.mpr ⟨⟨s_ldI dX2_firstBack_43, s_mo_ldI _ _⟩, (List.forall_mem_cons.mpr ⟨⟨s_ldIn dX2_firstBack_45 rfl, s_mo_ldI _ _⟩, (List.forall_mem_cons.mpr ⟨⟨s_sS mk_27 mk_28 ok_28 (by decide +kernel) dX2_firstBack_46 w_1126 w_1127, s_h0 mk_27⟩, (List.forall_mem_cons.mpr ⟨⟨s_ifeq dX2_firstBack_49 (by decide), s_mo_ifeq _ _⟩, (List.forall_mem_cons.mpr ⟨⟨s_goto dX2_firstBack_52 (by decide), s_mo_goto _⟩, (List.forall_mem_cons.mpr ⟨⟨s_ldI dX2_firstBack_55, s_mo_ldI _ _⟩, (List.forall_mem_cons.mpr ⟨⟨s_iconst dX2_firstBack_57 (by decide +kernel), s_mo_push _ _⟩, (List.forall_mem_cons.mpr ⟨⟨s_iadd dX2_firstBack_58, s_mo_bin _ _⟩, (List.forall_mem_cons.mpr ⟨⟨s_stI dX2_firstBack_59, s_mo_stI _ _⟩, (List.forall_mem_cons.mpr ⟨⟨s_ldI dX2_firstBack_61, s_mo_ldI _ _⟩, (List.forall_mem_cons.mpr ⟨⟨s_ldIn dX2_firstBack_63 rfl, s_mo_ldI _ _⟩, (fun _ h => absurd h List.not_mem_nil)⟩)⟩)⟩)⟩)⟩)⟩)⟩)⟩)⟩)⟩)⟩)⟩)⟩)⟩)⟩)⟩)⟩)⟩)⟩)⟩)⟩)⟩)⟩)⟩)⟩)⟩)⟩)⟩)⟩)⟩)⟩)⟩)⟩)⟩)
set_option maxRecDepth 20000 in
theorem kb_27_1 : ∀ q ∈ tb_27_1, s_atx 27 yX2_firstBack cX2_firstBack q.1 q.2 := (List.forall_mem_cons.mpr ⟨⟨s_icgt dX2_firstBack_64 (by decide), s_mo_icgt _ _⟩, (List.forall_mem_cons.mpr ⟨⟨s_ldAn dX2_firstBack_67 rfl, s_mo_ldA _ _⟩, (List.forall_mem_cons.mpr ⟨⟨s_ldAn dX2_firstBack_68 rfl, s_mo_ldA _ _⟩, (List.forall_mem_cons.mpr ⟨⟨s_ldI dX2_firstBack_69, s_mo_ldI _ _⟩, (List.forall_mem_cons.mpr ⟨⟨s_ldI dX2_firstBack_71, s_mo_ldI _ _⟩, (List.forall_mem_cons.mpr ⟨⟨s_sV mk_27 mk_24 ok_24 (by decide +kernel) dX2_firstBack_73 w_1129 w_1096 w_1097 (Or.inr ⟨1, _, _, rfl, rfl⟩), s_h0 mk_27⟩, (List.forall_mem_cons.mpr ⟨⟨s_ldIn dX2_firstBack_76 rfl, s_mo_ldI _ _⟩, (List.forall_mem_cons.mpr ⟨⟨s_icne dX2_firstBack_77 (by decide), s_mo_icne _ _⟩, (List.forall_mem_cons.mpr ⟨⟨s_sipush dX2_firstBack_80 (by decide +kernel), s_mo_push _ _⟩, (List.forall_mem_cons.mpr ⟨⟨s_ldI dX2_firstBack_83, s_mo_ldI _ _⟩, (List.forall_mem_cons.mpr ⟨⟨s_imul dX2_firstBack_85, s_mo_bin _ _⟩, (List.forall_mem_cons.mpr ⟨⟨s_ldI dX2_firstBack_86, s_mo_ldI _ _⟩, (List.forall_mem_cons.mpr ⟨⟨s_iadd dX2_firstBack_88, s_mo_bin _ _⟩, (List.forall_mem_cons.mpr ⟨s_r1 mk_27 dX2_firstBack_89, (List.forall_mem_cons.mpr ⟨⟨s_ldI dX2_firstBack_90, s_mo_ldI _ _⟩, (List.forall_mem_cons.mpr ⟨⟨s_ldAn dX2_firstBack_92 rfl, s_mo_ldA _ _⟩, (List.forall_mem_cons.mpr ⟨⟨s_getf (ci := 1) (k := 0) rfl (by decide) inX2 w_245 dX2_firstBack_93, s_mo_getf _ _ _⟩, (List.forall_mem_cons.mpr ⟨⟨s_iconst dX2_firstBack_96 (by decide +kernel), s_mo_push _ _⟩, (List.forall_mem_cons.mpr ⟨⟨s_mx w_1130 ws_mx w_mi wc_mx dX2_firstBack_97, s_mo_mx _⟩, (List.forall_mem_cons.mpr ⟨⟨s_iadd dX2_firstBack_100, s_mo_bin _ _⟩, (List.forall_mem_cons.mpr ⟨⟨s_stI dX2_firstBack_101, s_mo_stI _ _⟩, (List.forall_mem_cons.mpr ⟨⟨s_goto dX2_firstBack_103 (by decide), s_mo_goto _⟩, (List.forall_mem_cons.mpr ⟨⟨s_inc dX2_firstBack_106 (by decide +kernel), s_mo_inc _ _ _⟩, (List.forall_mem_cons.mpr ⟨⟨s_goto dX2_firstBack_109 (by decide), s_mo_goto _⟩, (List.forall_mem_cons.mpr ⟨⟨s_iconst dX2_firstBack_112 (by decide +kernel), s_mo_push _ _⟩, (List.forall_mem_cons.mpr ⟨s_r1 mk_27 dX2_firstBack_113, (fun _ h => absurd h List.not_mem_nil)⟩)⟩)⟩)⟩)⟩)⟩)⟩)⟩)⟩)⟩)⟩)⟩)⟩)⟩)⟩)⟩)⟩)⟩)⟩)⟩)⟩)⟩)⟩)⟩)⟩)⟩)
theorem km_27 : ∀ t ∈ tm_27, s_tok 27 t := (List.forall_mem_cons.mpr ⟨s_lift mk_27 kb_27_0, (List.forall_mem_cons.mpr ⟨s_lift mk_27 kb_27_1, (fun _ h => absurd h List.not_mem_nil)⟩)⟩)
theorem dX2_cannotGive_0 : decode cX2_cannotGive 0 = .ok (.aload_n 0, 1) := by decide +kernel
theorem dX2_cannotGive_1 : decode cX2_cannotGive 1 = .ok (.getfield 21, 3) := by decide +kernel
theorem dX2_cannotGive_4 : decode cX2_cannotGive 4 = .ok (.iload_n 1, 1) := by decide +kernel
theorem dX2_cannotGive_5 : decode cX2_cannotGive 5 = .ok (.iaload, 1) := by decide +kernel
theorem dX2_cannotGive_6 : decode cX2_cannotGive 6 = .ok (.iconst 3, 1) := by decide +kernel
theorem dX2_cannotGive_7 : decode cX2_cannotGive 7 = .ok (.if_icmp .ge 15, 3) := by decide +kernel
theorem dX2_cannotGive_10 : decode cX2_cannotGive 10 = .ok (.iload_n 2, 1) := by decide +kernel
theorem dX2_cannotGive_11 : decode cX2_cannotGive 11 = .ok (.iload_n 1, 1) := by decide +kernel
theorem dX2_cannotGive_12 : decode cX2_cannotGive 12 = .ok (.ishr, 1) := by decide +kernel
theorem dX2_cannotGive_13 : decode cX2_cannotGive 13 = .ok (.iconst 1, 1) := by decide +kernel
theorem dX2_cannotGive_14 : decode cX2_cannotGive 14 = .ok (.iand, 1) := by decide +kernel
theorem dX2_cannotGive_15 : decode cX2_cannotGive 15 = .ok (.ifCond .ne 7, 3) := by decide +kernel
theorem dX2_cannotGive_18 : decode cX2_cannotGive 18 = .ok (.iconst 1, 1) := by decide +kernel
theorem dX2_cannotGive_19 : decode cX2_cannotGive 19 = .ok (.goto 4, 3) := by decide +kernel
theorem dX2_cannotGive_22 : decode cX2_cannotGive 22 = .ok (.iconst 0, 1) := by decide +kernel
theorem dX2_cannotGive_23 : decode cX2_cannotGive 23 = .ok (.ireturn, 1) := by decide +kernel
set_option maxRecDepth 20000 in
theorem kb_28_0 : ∀ q ∈ tb_28_0, s_atx 28 yX2_cannotGive cX2_cannotGive q.1 q.2 := (List.forall_mem_cons.mpr ⟨⟨s_ldAn dX2_cannotGive_0 rfl, s_mo_ldA _ _⟩, (List.forall_mem_cons.mpr ⟨⟨s_getf (ci := 0) (k := 9) rfl (by decide) inX0 w_89 dX2_cannotGive_1, s_mo_getf _ _ _⟩, (List.forall_mem_cons.mpr ⟨⟨s_ldIn dX2_cannotGive_4 rfl, s_mo_ldI _ _⟩, (List.forall_mem_cons.mpr ⟨⟨s_iald dX2_cannotGive_5, s_mo_iald _⟩, (List.forall_mem_cons.mpr ⟨⟨s_iconst dX2_cannotGive_6 (by decide +kernel), s_mo_push _ _⟩, (List.forall_mem_cons.mpr ⟨⟨s_icge dX2_cannotGive_7 (by decide), s_mo_icge _ _⟩, (List.forall_mem_cons.mpr ⟨⟨s_ldIn dX2_cannotGive_10 rfl, s_mo_ldI _ _⟩, (List.forall_mem_cons.mpr ⟨⟨s_ldIn dX2_cannotGive_11 rfl, s_mo_ldI _ _⟩, (List.forall_mem_cons.mpr ⟨⟨s_ishr dX2_cannotGive_12, s_mo_bin _ _⟩, (List.forall_mem_cons.mpr ⟨⟨s_iconst dX2_cannotGive_13 (by decide +kernel), s_mo_push _ _⟩, (List.forall_mem_cons.mpr ⟨⟨s_iand dX2_cannotGive_14, s_mo_bin _ _⟩, (List.forall_mem_cons.mpr ⟨⟨s_ifne dX2_cannotGive_15 (by decide), s_mo_ifne _ _⟩, (List.forall_mem_cons.mpr ⟨⟨s_iconst dX2_cannotGive_18 (by decide +kernel), s_mo_push _ _⟩, (List.forall_mem_cons.mpr ⟨⟨s_goto dX2_cannotGive_19 (by decide), s_mo_goto _⟩, (List.forall_mem_cons.mpr ⟨⟨s_iconst dX2_cannotGive_22 (by decide +kernel), s_mo_push _ _⟩, (List.forall_mem_cons.mpr ⟨s_r2 mk_28 dX2_cannotGive_23, (fun _ h => absurd h List.not_mem_nil)⟩)⟩)⟩)⟩)⟩)⟩)⟩)⟩)⟩)⟩)⟩)⟩)⟩)⟩)⟩)⟩)
theorem km_28 : ∀ t ∈ tm_28, s_tok 28 t := (List.forall_mem_cons.mpr ⟨s_lift mk_28 kb_28_0, (fun _ h => absurd h List.not_mem_nil)⟩)
theorem dX3_freeze_0 : decode cX3_freeze 0 = .ok (.iload_n 2, 1) := by decide +kernel
theorem dX3_freeze_1 : decode cX3_freeze 1 = .ok (.iconst 1, 1) := by decide +kernel
theorem dX3_freeze_2 : decode cX3_freeze 2 = .ok (.if_icmp .ge 5, 3) := by decide +kernel
theorem dX3_freeze_5 : decode cX3_freeze 5 = .ok (.iconst 0, 1) := by decide +kernel
theorem dX3_freeze_6 : decode cX3_freeze 6 = .ok (.ireturn, 1) := by decide +kernel
theorem dX3_freeze_7 : decode cX3_freeze 7 = .ok (.iload_n 1, 1) := by decide +kernel
theorem dX3_freeze_8 : decode cX3_freeze 8 = .ok (.istore_n 3, 1) := by decide +kernel
theorem dX3_freeze_9 : decode cX3_freeze 9 = .ok (.iconst 0, 1) := by decide +kernel
theorem dX3_freeze_10 : decode cX3_freeze 10 = .ok (.istore 4, 2) := by decide +kernel
theorem dX3_freeze_12 : decode cX3_freeze 12 = .ok (.iconst 0, 1) := by decide +kernel
theorem dX3_freeze_13 : decode cX3_freeze 13 = .ok (.istore 5, 2) := by decide +kernel
theorem dX3_freeze_15 : decode cX3_freeze 15 = .ok (.iload 5, 2) := by decide +kernel
theorem dX3_freeze_17 : decode cX3_freeze 17 = .ok (.aload_n 0, 1) := by decide +kernel
theorem dX3_freeze_18 : decode cX3_freeze 18 = .ok (.getfield 9, 3) := by decide +kernel
theorem dX3_freeze_21 : decode cX3_freeze 21 = .ok (.if_icmp .ge 87, 3) := by decide +kernel
theorem dX3_freeze_24 : decode cX3_freeze 24 = .ok (.iload_n 3, 1) := by decide +kernel
theorem dX3_freeze_25 : decode cX3_freeze 25 = .ok (.invokestatic 15, 3) := by decide +kernel
theorem dX3_freeze_28 : decode cX3_freeze 28 = .ok (.istore_n 3, 1) := by decide +kernel
theorem dX3_freeze_29 : decode cX3_freeze 29 = .ok (.aload_n 0, 1) := by decide +kernel
theorem dX3_freeze_30 : decode cX3_freeze 30 = .ok (.getfield 21, 3) := by decide +kernel
theorem dX3_freeze_33 : decode cX3_freeze 33 = .ok (.iload 5, 2) := by decide +kernel
theorem dX3_freeze_35 : decode cX3_freeze 35 = .ok (.aload_n 0, 1) := by decide +kernel
theorem dX3_freeze_36 : decode cX3_freeze 36 = .ok (.getfield 21, 3) := by decide +kernel
theorem dX3_freeze_39 : decode cX3_freeze 39 = .ok (.iload 5, 2) := by decide +kernel
theorem dX3_freeze_41 : decode cX3_freeze 41 = .ok (.iaload, 1) := by decide +kernel
theorem dX3_freeze_42 : decode cX3_freeze 42 = .ok (.iload_n 3, 1) := by decide +kernel
theorem dX3_freeze_43 : decode cX3_freeze 43 = .ok (.invokestatic 25, 3) := by decide +kernel
theorem dX3_freeze_46 : decode cX3_freeze 46 = .ok (.iload_n 2, 1) := by decide +kernel
theorem dX3_freeze_47 : decode cX3_freeze 47 = .ok (.irem, 1) := by decide +kernel
theorem dX3_freeze_48 : decode cX3_freeze 48 = .ok (.isub, 1) := by decide +kernel
theorem dX3_freeze_49 : decode cX3_freeze 49 = .ok (.bipush (-40), 2) := by decide +kernel
theorem dX3_freeze_51 : decode cX3_freeze 51 = .ok (.invokestatic 28, 3) := by decide +kernel
theorem dX3_freeze_54 : decode cX3_freeze 54 = .ok (.iastore, 1) := by decide +kernel
theorem dX3_freeze_55 : decode cX3_freeze 55 = .ok (.aload_n 0, 1) := by decide +kernel
theorem dX3_freeze_56 : decode cX3_freeze 56 = .ok (.iload 5, 2) := by decide +kernel
theorem dX3_freeze_58 : decode cX3_freeze 58 = .ok (.invokestatic 34, 3) := by decide +kernel
theorem dX3_freeze_61 : decode cX3_freeze 61 = .ok (.ifCond .ne 6, 3) := by decide +kernel
theorem dX3_freeze_64 : decode cX3_freeze 64 = .ok (.goto 38, 3) := by decide +kernel
theorem dX3_freeze_67 : decode cX3_freeze 67 = .ok (.iload_n 3, 1) := by decide +kernel
theorem dX3_freeze_68 : decode cX3_freeze 68 = .ok (.invokestatic 15, 3) := by decide +kernel
theorem dX3_freeze_71 : decode cX3_freeze 71 = .ok (.istore_n 3, 1) := by decide +kernel
theorem dX3_freeze_72 : decode cX3_freeze 72 = .ok (.iload_n 3, 1) := by decide +kernel
theorem dX3_freeze_73 : decode cX3_freeze 73 = .ok (.invokestatic 25, 3) := by decide +kernel
theorem dX3_freeze_76 : decode cX3_freeze 76 = .ok (.bipush 100, 2) := by decide +kernel
theorem dX3_freeze_78 : decode cX3_freeze 78 = .ok (.irem, 1) := by decide +kernel
theorem dX3_freeze_79 : decode cX3_freeze 79 = .ok (.aload_n 0, 1) := by decide +kernel
theorem dX3_freeze_80 : decode cX3_freeze 80 = .ok (.iload 5, 2) := by decide +kernel
theorem dX3_freeze_82 : decode cX3_freeze 82 = .ok (.invokestatic 38, 3) := by decide +kernel
theorem dX3_freeze_85 : decode cX3_freeze 85 = .ok (.if_icmp .ge 17, 3) := by decide +kernel
theorem dX3_freeze_88 : decode cX3_freeze 88 = .ok (.aload_n 0, 1) := by decide +kernel
theorem dX3_freeze_89 : decode cX3_freeze 89 = .ok (.getfield 42, 3) := by decide +kernel
theorem dX3_freeze_92 : decode cX3_freeze 92 = .ok (.iload 5, 2) := by decide +kernel
theorem dX3_freeze_94 : decode cX3_freeze 94 = .ok (.dup2, 1) := by decide +kernel
theorem dX3_freeze_95 : decode cX3_freeze 95 = .ok (.iaload, 1) := by decide +kernel
theorem dX3_freeze_96 : decode cX3_freeze 96 = .ok (.iconst 1, 1) := by decide +kernel
theorem dX3_freeze_97 : decode cX3_freeze 97 = .ok (.iadd, 1) := by decide +kernel
theorem dX3_freeze_98 : decode cX3_freeze 98 = .ok (.iastore, 1) := by decide +kernel
theorem dX3_freeze_99 : decode cX3_freeze 99 = .ok (.iinc 4 1, 3) := by decide +kernel
theorem dX3_freeze_102 : decode cX3_freeze 102 = .ok (.iinc 5 1, 3) := by decide +kernel
theorem dX3_freeze_105 : decode cX3_freeze 105 = .ok (.goto (-90), 3) := by decide +kernel
theorem dX3_freeze_108 : decode cX3_freeze 108 = .ok (.iload 4, 2) := by decide +kernel
theorem dX3_freeze_110 : decode cX3_freeze 110 = .ok (.ireturn, 1) := by decide +kernel
set_option maxRecDepth 20000 in
theorem kb_29_0 : ∀ q ∈ tb_29_0, s_atx 29 yX3_freeze cX3_freeze q.1 q.2 := (List.forall_mem_cons.mpr ⟨⟨s_ldIn dX3_freeze_0 rfl, s_mo_ldI _ _⟩, (List.forall_mem_cons.mpr ⟨⟨s_iconst dX3_freeze_1 (by decide +kernel), s_mo_push _ _⟩, (List.forall_mem_cons.mpr ⟨⟨s_icge dX3_freeze_2 (by decide), s_mo_icge _ _⟩, (List.forall_mem_cons.mpr ⟨⟨s_iconst dX3_freeze_5 (by decide +kernel), s_mo_push _ _⟩, (List.forall_mem_cons.mpr ⟨s_r1 mk_29 dX3_freeze_6, (List.forall_mem_cons.mpr ⟨⟨s_ldIn dX3_freeze_7 rfl, s_mo_ldI _ _⟩, (List.forall_mem_cons.mpr ⟨⟨s_stIn dX3_freeze_8 rfl, s_mo_stI _ _⟩, (List.forall_mem_cons.mpr ⟨⟨s_iconst dX3_freeze_9 (by decide +kernel), s_mo_push _ _⟩, (List.forall_mem_cons.mpr ⟨⟨s_stI dX3_freeze_10, s_mo_stI _ _⟩, (List.forall_mem_cons.mpr ⟨⟨s_iconst dX3_freeze_12 (by decide +kernel), s_mo_push _ _⟩, (List.forall_mem_cons.mpr ⟨⟨s_stI dX3_freeze_13, s_mo_stI _ _⟩, (List.forall_mem_cons.mpr ⟨⟨s_ldI dX3_freeze_15, s_mo_ldI _ _⟩, (List.forall_mem_cons.mpr ⟨⟨s_ldAn dX3_freeze_17 rfl, s_mo_ldA _ _⟩, (List.forall_mem_cons.mpr ⟨⟨s_getf (ci := 0) (k := 2) rfl (by decide) inX0 w_58 dX3_freeze_18, s_mo_getf _ _ _⟩, (List.forall_mem_cons.mpr ⟨⟨s_icge dX3_freeze_21 (by decide), s_mo_icge _ _⟩, (List.forall_mem_cons.mpr ⟨⟨s_ldIn dX3_freeze_24 rfl, s_mo_ldI _ _⟩, (List.forall_mem_cons.mpr ⟨⟨s_sS mk_29 mk_30 ok_30 (by decide +kernel) dX3_freeze_25 w_1176 w_1177, s_h0 mk_29⟩, (List.forall_mem_cons.mpr ⟨⟨s_stIn dX3_freeze_28 rfl, s_mo_stI _ _⟩, (List.forall_mem_cons.mpr ⟨⟨s_ldAn dX3_freeze_29 rfl, s_mo_ldA _ _⟩, (List.forall_mem_cons.mpr ⟨⟨s_getf (ci := 0) (k := 7) rfl (by decide) inX0 w_78 dX3_freeze_30, s_mo_getf _ _ _⟩, (List.forall_mem_cons.mpr ⟨⟨s_ldI dX3_freeze_33, s_mo_ldI _ _⟩, (List.forall_mem_cons.mpr ⟨⟨s_ldAn dX3_freeze_35 rfl, s_mo_ldA _ _⟩, (List.forall_mem_cons.mpr ⟨⟨s_getf (ci := 0) (k := 7) rfl (by decide) inX0 w_78 dX3_freeze_36, s_mo_getf _ _ _⟩, (List.forall_mem_cons.mpr ⟨⟨s_ldI dX3_freeze_39, s_mo_ldI _ _⟩, (List.forall_mem_cons.mpr ⟨⟨s_iald dX3_freeze_41, s_mo_iald _⟩, (List.forall_mem_cons.mpr ⟨⟨s_ldIn dX3_freeze_42 rfl, s_mo_ldI _ _⟩, (List.forall_mem_cons.mpr ⟨⟨s_sS mk_29 mk_31 ok_31 (by decide +kernel) dX3_freeze_43 w_1180 w_1181, s_h0 mk_29⟩, (List.forall_mem_cons.mpr ⟨⟨s_ldIn dX3_freeze_46 rfl, s_mo_ldI _ _⟩, (List.forall_mem_cons.mpr ⟨⟨s_irem dX3_freeze_47, s_mo_rem _⟩, (List.forall_mem_cons.mpr ⟨⟨s_isub dX3_freeze_48, s_mo_bin _ _⟩, (List.forall_mem_cons.mpr ⟨⟨s_bipush dX3_freeze_49 (by decide +kernel), s_mo_push _ _⟩, (List.forall_mem_cons.mpr ⟨⟨s_mx w_381 ws_mx w_mi wc_mx dX3_freeze_51, s_mo_mx _⟩, (List.forall_mem_cons.mpr ⟨⟨s_iast dX3_freeze_54, s_mo_iast _⟩, (List.forall_mem_cons.mpr ⟨⟨s_ldAn dX3_freeze_55 rfl, s_mo_ldA _ _⟩, (List.forall_mem_cons.mpr ⟨⟨s_ldI dX3_freeze_56, s_mo_ldI _ _⟩, (List.forall_mem_cons.mpr ⟨⟨s_sS mk_29 mk_32 ok_32 (by decide +kernel) dX3_freeze_58 w_372 w_373, s_h0 mk_29⟩, (List.forall_mem_cons.mpr ⟨⟨s_ifne dX3_freeze_61 (by decide), s_mo_ifne _ _⟩, (fun _ h => absurd h List.not_mem_nil)⟩)⟩)⟩)⟩)⟩)⟩)⟩)⟩)⟩)⟩)⟩)⟩)⟩)⟩)⟩)⟩)⟩)⟩)⟩)⟩)⟩)⟩)⟩)⟩)⟩)⟩)⟩)⟩)⟩)⟩)⟩)⟩)⟩)⟩)⟩)⟩)⟩)
set_option maxRecDepth 20000 in
theorem kb_29_1 : ∀ q ∈ tb_29_1, s_atx 29 yX3_freeze cX3_freeze q.1 q.2 := (List.forall_mem_cons.mpr ⟨⟨s_goto dX3_freeze_64 (by decide), s_mo_goto _⟩, (List.forall_mem_cons.mpr ⟨⟨s_ldIn dX3_freeze_67 rfl, s_mo_ldI _ _⟩, (List.forall_mem_cons.mpr ⟨⟨s_sS mk_29 mk_30 ok_30 (by decide +kernel) dX3_freeze_68 w_1176 w_1177, s_h0 mk_29⟩, (List.forall_mem_cons.mpr ⟨⟨s_stIn dX3_freeze_71 rfl, s_mo_stI _ _⟩, (List.forall_mem_cons.mpr ⟨⟨s_ldIn dX3_freeze_72 rfl, s_mo_ldI _ _⟩, (List.forall_mem_cons.mpr ⟨⟨s_sS mk_29 mk_31 ok_31 (by decide +kernel) dX3_freeze_73 w_1180 w_1181, s_h0 mk_29⟩, (List.forall_mem_cons.mpr ⟨⟨s_bipush dX3_freeze_76 (by decide +kernel), s_mo_push _ _⟩, (List.forall_mem_cons.mpr ⟨⟨s_irem dX3_freeze_78, s_mo_rem _⟩, (List.forall_mem_cons.mpr ⟨⟨s_ldAn dX3_freeze_79 rfl, s_mo_ldA _ _⟩, (List.forall_mem_cons.mpr ⟨⟨s_ldI dX3_freeze_80, s_mo_ldI _ _⟩, (List.forall_mem_cons.mpr ⟨⟨s_sS mk_29 mk_33 ok_33 (by decide +kernel) dX3_freeze_82 w_375 w_376, s_h0 mk_29⟩, (List.forall_mem_cons.mpr ⟨⟨s_icge dX3_freeze_85 (by decide), s_mo_icge _ _⟩, (List.forall_mem_cons.mpr ⟨⟨s_ldAn dX3_freeze_88 rfl, s_mo_ldA _ _⟩, (List.forall_mem_cons.mpr ⟨⟨s_getf (ci := 0) (k := 9) rfl (by decide) inX0 w_91 dX3_freeze_89, s_mo_getf _ _ _⟩, (List.forall_mem_cons.mpr ⟨⟨s_ldI dX3_freeze_92, s_mo_ldI _ _⟩, (List.forall_mem_cons.mpr ⟨⟨s_dup2 dX3_freeze_94, s_mo_dup2 _⟩, (List.forall_mem_cons.mpr ⟨⟨s_iald dX3_freeze_95, s_mo_iald _⟩, (List.forall_mem_cons.mpr ⟨⟨s_iconst dX3_freeze_96 (by decide +kernel), s_mo_push _ _⟩, (List.forall_mem_cons.mpr ⟨⟨s_iadd dX3_freeze_97, s_mo_bin _ _⟩, (List.forall_mem_cons.mpr ⟨⟨s_iast dX3_freeze_98, s_mo_iast _⟩, (List.forall_mem_cons.mpr ⟨⟨s_inc dX3_freeze_99 (by decide +kernel), s_mo_inc _ _ _⟩, (List.forall_mem_cons.mpr ⟨⟨s_inc dX3_freeze_102 (by decide +kernel), s_mo_inc _ _ _⟩, (List.forall_mem_cons.mpr ⟨⟨s_goto dX3_freeze_105 (by decide), s_mo_goto _⟩, (List.forall_mem_cons.mpr ⟨⟨s_ldI dX3_freeze_108, s_mo_ldI _ _⟩, (List.forall_mem_cons.mpr ⟨s_r1 mk_29 dX3_freeze_110, (fun _ h => absurd h List.not_mem_nil)⟩)⟩)⟩)⟩)⟩)⟩)⟩)⟩)⟩)⟩)⟩)⟩)⟩)⟩)⟩)⟩)⟩)⟩)⟩)⟩)⟩)⟩)⟩)⟩)⟩)
theorem km_29 : ∀ t ∈ tm_29, s_tok 29 t := (List.forall_mem_cons.mpr ⟨s_lift mk_29 kb_29_0, (List.forall_mem_cons.mpr ⟨s_lift mk_29 kb_29_1, (fun _ h => absurd h List.not_mem_nil)⟩)⟩)
theorem dX3_follow_0 : decode cX3_follow 0 = .ok (.ldc 45, 2) := by decide +kernel
theorem dX3_follow_2 : decode cX3_follow 2 = .ok (.iload_n 0, 1) := by decide +kernel
theorem dX3_follow_3 : decode cX3_follow 3 = .ok (.imul, 1) := by decide +kernel
theorem dX3_follow_4 : decode cX3_follow 4 = .ok (.sipush 12345, 3) := by decide +kernel
theorem dX3_follow_7 : decode cX3_follow 7 = .ok (.iadd, 1) := by decide +kernel
theorem dX3_follow_8 : decode cX3_follow 8 = .ok (.ireturn, 1) := by decide +kernel
set_option maxRecDepth 20000 in
theorem kb_30_0 : ∀ q ∈ tb_30_0, s_atx 30 yX3_follow cX3_follow q.1 q.2 := (List.forall_mem_cons.mpr ⟨⟨s_ldc w_1179 dX3_follow_0, s_mo_push _ _⟩, (List.forall_mem_cons.mpr ⟨⟨s_ldIn dX3_follow_2 rfl, s_mo_ldI _ _⟩, (List.forall_mem_cons.mpr ⟨⟨s_imul dX3_follow_3, s_mo_bin _ _⟩, (List.forall_mem_cons.mpr ⟨⟨s_sipush dX3_follow_4 (by decide +kernel), s_mo_push _ _⟩, (List.forall_mem_cons.mpr ⟨⟨s_iadd dX3_follow_7, s_mo_bin _ _⟩, (List.forall_mem_cons.mpr ⟨s_r1 mk_30 dX3_follow_8, (fun _ h => absurd h List.not_mem_nil)⟩)⟩)⟩)⟩)⟩)⟩)
theorem km_30 : ∀ t ∈ tm_30, s_tok 30 t := (List.forall_mem_cons.mpr ⟨s_lift mk_30 kb_30_0, (fun _ h => absurd h List.not_mem_nil)⟩)
theorem dX3_drawn_0 : decode cX3_drawn 0 = .ok (.iload_n 0, 1) := by decide +kernel
theorem dX3_drawn_1 : decode cX3_drawn 1 = .ok (.bipush 16, 2) := by decide +kernel
theorem dX3_drawn_3 : decode cX3_drawn 3 = .ok (.ishr, 1) := by decide +kernel
theorem dX3_drawn_4 : decode cX3_drawn 4 = .ok (.sipush 32767, 3) := by decide +kernel
theorem dX3_drawn_7 : decode cX3_drawn 7 = .ok (.iand, 1) := by decide +kernel
theorem dX3_drawn_8 : decode cX3_drawn 8 = .ok (.ireturn, 1) := by decide +kernel
set_option maxRecDepth 20000 in
theorem kb_31_0 : ∀ q ∈ tb_31_0, s_atx 31 yX3_drawn cX3_drawn q.1 q.2 := (List.forall_mem_cons.mpr ⟨⟨s_ldIn dX3_drawn_0 rfl, s_mo_ldI _ _⟩, (List.forall_mem_cons.mpr ⟨⟨s_bipush dX3_drawn_1 (by decide +kernel), s_mo_push _ _⟩, (List.forall_mem_cons.mpr ⟨⟨s_ishr dX3_drawn_3, s_mo_bin _ _⟩, (List.forall_mem_cons.mpr ⟨⟨s_sipush dX3_drawn_4 (by decide +kernel), s_mo_push _ _⟩, (List.forall_mem_cons.mpr ⟨⟨s_iand dX3_drawn_7, s_mo_bin _ _⟩, (List.forall_mem_cons.mpr ⟨s_r1 mk_31 dX3_drawn_8, (fun _ h => absurd h List.not_mem_nil)⟩)⟩)⟩)⟩)⟩)⟩)
theorem km_31 : ∀ t ∈ tm_31, s_tok 31 t := (List.forall_mem_cons.mpr ⟨s_lift mk_31 kb_31_0, (fun _ h => absurd h List.not_mem_nil)⟩)
theorem dX3_isAtRisk_0 : decode cX3_isAtRisk 0 = .ok (.aload_n 0, 1) := by decide +kernel
theorem dX3_isAtRisk_1 : decode cX3_isAtRisk 1 = .ok (.getfield 21, 3) := by decide +kernel
theorem dX3_isAtRisk_4 : decode cX3_isAtRisk 4 = .ok (.iload_n 1, 1) := by decide +kernel
theorem dX3_isAtRisk_5 : decode cX3_isAtRisk 5 = .ok (.iaload, 1) := by decide +kernel
theorem dX3_isAtRisk_6 : decode cX3_isAtRisk 6 = .ok (.ifCond .ge 17, 3) := by decide +kernel
theorem dX3_isAtRisk_9 : decode cX3_isAtRisk 9 = .ok (.aload_n 0, 1) := by decide +kernel
theorem dX3_isAtRisk_10 : decode cX3_isAtRisk 10 = .ok (.getfield 42, 3) := by decide +kernel
theorem dX3_isAtRisk_13 : decode cX3_isAtRisk 13 = .ok (.iload_n 1, 1) := by decide +kernel
theorem dX3_isAtRisk_14 : decode cX3_isAtRisk 14 = .ok (.iaload, 1) := by decide +kernel
theorem dX3_isAtRisk_15 : decode cX3_isAtRisk 15 = .ok (.iconst 3, 1) := by decide +kernel
theorem dX3_isAtRisk_16 : decode cX3_isAtRisk 16 = .ok (.if_icmp .ge 7, 3) := by decide +kernel
theorem dX3_isAtRisk_19 : decode cX3_isAtRisk 19 = .ok (.iconst 1, 1) := by decide +kernel
theorem dX3_isAtRisk_20 : decode cX3_isAtRisk 20 = .ok (.goto 4, 3) := by decide +kernel
theorem dX3_isAtRisk_23 : decode cX3_isAtRisk 23 = .ok (.iconst 0, 1) := by decide +kernel
theorem dX3_isAtRisk_24 : decode cX3_isAtRisk 24 = .ok (.ireturn, 1) := by decide +kernel
set_option maxRecDepth 20000 in
theorem kb_32_0 : ∀ q ∈ tb_32_0, s_atx 32 yX3_isAtRisk cX3_isAtRisk q.1 q.2 := (List.forall_mem_cons.mpr ⟨⟨s_ldAn dX3_isAtRisk_0 rfl, s_mo_ldA _ _⟩, (List.forall_mem_cons.mpr ⟨⟨s_getf (ci := 0) (k := 7) rfl (by decide) inX0 w_78 dX3_isAtRisk_1, s_mo_getf _ _ _⟩, (List.forall_mem_cons.mpr ⟨⟨s_ldIn dX3_isAtRisk_4 rfl, s_mo_ldI _ _⟩, (List.forall_mem_cons.mpr ⟨⟨s_iald dX3_isAtRisk_5, s_mo_iald _⟩, (List.forall_mem_cons.mpr ⟨⟨s_ifge dX3_isAtRisk_6 (by decide), s_mo_ifge _ _⟩, (List.forall_mem_cons.mpr ⟨⟨s_ldAn dX3_isAtRisk_9 rfl, s_mo_ldA _ _⟩, (List.forall_mem_cons.mpr ⟨⟨s_getf (ci := 0) (k := 9) rfl (by decide) inX0 w_91 dX3_isAtRisk_10, s_mo_getf _ _ _⟩, (List.forall_mem_cons.mpr ⟨⟨s_ldIn dX3_isAtRisk_13 rfl, s_mo_ldI _ _⟩, (List.forall_mem_cons.mpr ⟨⟨s_iald dX3_isAtRisk_14, s_mo_iald _⟩, (List.forall_mem_cons.mpr ⟨⟨s_iconst dX3_isAtRisk_15 (by decide +kernel), s_mo_push _ _⟩, (List.forall_mem_cons.mpr ⟨⟨s_icge dX3_isAtRisk_16 (by decide), s_mo_icge _ _⟩, (List.forall_mem_cons.mpr ⟨⟨s_iconst dX3_isAtRisk_19 (by decide +kernel), s_mo_push _ _⟩, (List.forall_mem_cons.mpr ⟨⟨s_goto dX3_isAtRisk_20 (by decide), s_mo_goto _⟩, (List.forall_mem_cons.mpr ⟨⟨s_iconst dX3_isAtRisk_23 (by decide +kernel), s_mo_push _ _⟩, (List.forall_mem_cons.mpr ⟨s_r2 mk_32 dX3_isAtRisk_24, (fun _ h => absurd h List.not_mem_nil)⟩)⟩)⟩)⟩)⟩)⟩)⟩)⟩)⟩)⟩)⟩)⟩)⟩)⟩)⟩)
theorem km_32 : ∀ t ∈ tm_32, s_tok 32 t := (List.forall_mem_cons.mpr ⟨s_lift mk_32 kb_32_0, (fun _ h => absurd h List.not_mem_nil)⟩)
theorem dX3_chance_0 : decode cX3_chance 0 = .ok (.iconst 3, 1) := by decide +kernel
theorem dX3_chance_1 : decode cX3_chance 1 = .ok (.aload_n 0, 1) := by decide +kernel
theorem dX3_chance_2 : decode cX3_chance 2 = .ok (.getfield 21, 3) := by decide +kernel
theorem dX3_chance_5 : decode cX3_chance 5 = .ok (.iload_n 1, 1) := by decide +kernel
theorem dX3_chance_6 : decode cX3_chance 6 = .ok (.iaload, 1) := by decide +kernel
theorem dX3_chance_7 : decode cX3_chance 7 = .ok (.ineg, 1) := by decide +kernel
theorem dX3_chance_8 : decode cX3_chance 8 = .ok (.imul, 1) := by decide +kernel
theorem dX3_chance_9 : decode cX3_chance 9 = .ok (.aload_n 0, 1) := by decide +kernel
theorem dX3_chance_10 : decode cX3_chance 10 = .ok (.getfield 46, 3) := by decide +kernel
theorem dX3_chance_13 : decode cX3_chance 13 = .ok (.iload_n 1, 1) := by decide +kernel
theorem dX3_chance_14 : decode cX3_chance 14 = .ok (.iaload, 1) := by decide +kernel
theorem dX3_chance_15 : decode cX3_chance 15 = .ok (.isub, 1) := by decide +kernel
theorem dX3_chance_16 : decode cX3_chance 16 = .ok (.istore_n 2, 1) := by decide +kernel
theorem dX3_chance_17 : decode cX3_chance 17 = .ok (.iconst 0, 1) := by decide +kernel
theorem dX3_chance_18 : decode cX3_chance 18 = .ok (.iload_n 2, 1) := by decide +kernel
theorem dX3_chance_19 : decode cX3_chance 19 = .ok (.bipush 100, 2) := by decide +kernel
theorem dX3_chance_21 : decode cX3_chance 21 = .ok (.invokestatic 49, 3) := by decide +kernel
theorem dX3_chance_24 : decode cX3_chance 24 = .ok (.invokestatic 28, 3) := by decide +kernel
theorem dX3_chance_27 : decode cX3_chance 27 = .ok (.ireturn, 1) := by decide +kernel
set_option maxRecDepth 20000 in
theorem kb_33_0 : ∀ q ∈ tb_33_0, s_atx 33 yX3_chance cX3_chance q.1 q.2 := (List.forall_mem_cons.mpr ⟨⟨s_iconst dX3_chance_0 (by decide +kernel), s_mo_push _ _⟩, (List.forall_mem_cons.mpr ⟨⟨s_ldAn dX3_chance_1 rfl, s_mo_ldA _ _⟩, (List.forall_mem_cons.mpr ⟨⟨s_getf (ci := 0) (k := 7) rfl (by decide) inX0 w_78 dX3_chance_2, s_mo_getf _ _ _⟩, (List.forall_mem_cons.mpr ⟨⟨s_ldIn dX3_chance_5 rfl, s_mo_ldI _ _⟩, (List.forall_mem_cons.mpr ⟨⟨s_iald dX3_chance_6, s_mo_iald _⟩, (List.forall_mem_cons.mpr ⟨⟨s_ineg dX3_chance_7, s_mo_un _ _⟩, (List.forall_mem_cons.mpr ⟨⟨s_imul dX3_chance_8, s_mo_bin _ _⟩, (List.forall_mem_cons.mpr ⟨⟨s_ldAn dX3_chance_9 rfl, s_mo_ldA _ _⟩, (List.forall_mem_cons.mpr ⟨⟨s_getf (ci := 0) (k := 6) rfl (by decide) inX0 w_75 dX3_chance_10, s_mo_getf _ _ _⟩, (List.forall_mem_cons.mpr ⟨⟨s_ldIn dX3_chance_13 rfl, s_mo_ldI _ _⟩, (List.forall_mem_cons.mpr ⟨⟨s_iald dX3_chance_14, s_mo_iald _⟩, (List.forall_mem_cons.mpr ⟨⟨s_isub dX3_chance_15, s_mo_bin _ _⟩, (List.forall_mem_cons.mpr ⟨⟨s_stIn dX3_chance_16 rfl, s_mo_stI _ _⟩, (List.forall_mem_cons.mpr ⟨⟨s_iconst dX3_chance_17 (by decide +kernel), s_mo_push _ _⟩, (List.forall_mem_cons.mpr ⟨⟨s_ldIn dX3_chance_18 rfl, s_mo_ldI _ _⟩, (List.forall_mem_cons.mpr ⟨⟨s_bipush dX3_chance_19 (by decide +kernel), s_mo_push _ _⟩, (List.forall_mem_cons.mpr ⟨⟨s_mn w_378 ws_mn w_mi wc_mn dX3_chance_21, s_mo_mn _⟩, (List.forall_mem_cons.mpr ⟨⟨s_mx w_381 ws_mx w_mi wc_mx dX3_chance_24, s_mo_mx _⟩, (List.forall_mem_cons.mpr ⟨s_r1 mk_33 dX3_chance_27, (fun _ h => absurd h List.not_mem_nil)⟩)⟩)⟩)⟩)⟩)⟩)⟩)⟩)⟩)⟩)⟩)⟩)⟩)⟩)⟩)⟩)⟩)⟩)⟩)
theorem km_33 : ∀ t ∈ tm_33, s_tok 33 t := (List.forall_mem_cons.mpr ⟨s_lift mk_33 kb_33_0, (fun _ h => absurd h List.not_mem_nil)⟩)
theorem dX3_allHold_0 : decode cX3_allHold 0 = .ok (.ldc2_w 52, 3) := by decide +kernel
theorem dX3_allHold_3 : decode cX3_allHold 3 = .ok (.lstore_n 1, 1) := by decide +kernel
theorem dX3_allHold_4 : decode cX3_allHold 4 = .ok (.iconst 0, 1) := by decide +kernel
theorem dX3_allHold_5 : decode cX3_allHold 5 = .ok (.istore_n 3, 1) := by decide +kernel
theorem dX3_allHold_6 : decode cX3_allHold 6 = .ok (.iload_n 3, 1) := by decide +kernel
theorem dX3_allHold_7 : decode cX3_allHold 7 = .ok (.aload_n 0, 1) := by decide +kernel
theorem dX3_allHold_8 : decode cX3_allHold 8 = .ok (.getfield 9, 3) := by decide +kernel
theorem dX3_allHold_11 : decode cX3_allHold 11 = .ok (.if_icmp .ge 33, 3) := by decide +kernel
theorem dX3_allHold_14 : decode cX3_allHold 14 = .ok (.aload_n 0, 1) := by decide +kernel
theorem dX3_allHold_15 : decode cX3_allHold 15 = .ok (.iload_n 3, 1) := by decide +kernel
theorem dX3_allHold_16 : decode cX3_allHold 16 = .ok (.invokestatic 34, 3) := by decide +kernel
theorem dX3_allHold_19 : decode cX3_allHold 19 = .ok (.ifCond .eq 19, 3) := by decide +kernel
theorem dX3_allHold_22 : decode cX3_allHold 22 = .ok (.lload_n 1, 1) := by decide +kernel
theorem dX3_allHold_23 : decode cX3_allHold 23 = .ok (.bipush 100, 2) := by decide +kernel
theorem dX3_allHold_25 : decode cX3_allHold 25 = .ok (.aload_n 0, 1) := by decide +kernel
theorem dX3_allHold_26 : decode cX3_allHold 26 = .ok (.iload_n 3, 1) := by decide +kernel
theorem dX3_allHold_27 : decode cX3_allHold 27 = .ok (.invokestatic 38, 3) := by decide +kernel
theorem dX3_allHold_30 : decode cX3_allHold 30 = .ok (.isub, 1) := by decide +kernel
theorem dX3_allHold_31 : decode cX3_allHold 31 = .ok (.i2l, 1) := by decide +kernel
theorem dX3_allHold_32 : decode cX3_allHold 32 = .ok (.lmul, 1) := by decide +kernel
theorem dX3_allHold_33 : decode cX3_allHold 33 = .ok (.ldc2_w 54, 3) := by decide +kernel
theorem dX3_allHold_36 : decode cX3_allHold 36 = .ok (.ldiv, 1) := by decide +kernel
theorem dX3_allHold_37 : decode cX3_allHold 37 = .ok (.lstore_n 1, 1) := by decide +kernel
theorem dX3_allHold_38 : decode cX3_allHold 38 = .ok (.iinc 3 1, 3) := by decide +kernel
theorem dX3_allHold_41 : decode cX3_allHold 41 = .ok (.goto (-35), 3) := by decide +kernel
theorem dX3_allHold_44 : decode cX3_allHold 44 = .ok (.lload_n 1, 1) := by decide +kernel
theorem dX3_allHold_45 : decode cX3_allHold 45 = .ok (.l2i, 1) := by decide +kernel
theorem dX3_allHold_46 : decode cX3_allHold 46 = .ok (.ireturn, 1) := by decide +kernel
set_option maxRecDepth 20000 in
theorem kb_34_0 : ∀ q ∈ tb_34_0, s_atx 34 yX3_allHold cX3_allHold q.1 q.2 := (List.forall_mem_cons.mpr ⟨⟨s_ldc2 w_371 dX3_allHold_0, s_mo_push _ _⟩, (List.forall_mem_cons.mpr ⟨⟨s_stLn dX3_allHold_3 rfl, s_mo_stL _ _⟩, (List.forall_mem_cons.mpr ⟨⟨s_iconst dX3_allHold_4 (by decide +kernel), s_mo_push _ _⟩, (List.forall_mem_cons.mpr ⟨⟨s_stIn dX3_allHold_5 rfl, s_mo_stI _ _⟩, (List.forall_mem_cons.mpr ⟨⟨s_ldIn dX3_allHold_6 rfl, s_mo_ldI _ _⟩, (List.forall_mem_cons.mpr ⟨⟨s_ldAn dX3_allHold_7 rfl, s_mo_ldA _ _⟩, (List.forall_mem_cons.mpr ⟨⟨s_getf (ci := 0) (k := 2) rfl (by decide) inX0 w_58 dX3_allHold_8, s_mo_getf _ _ _⟩, (List.forall_mem_cons.mpr ⟨⟨s_icge dX3_allHold_11 (by decide), s_mo_icge _ _⟩, (List.forall_mem_cons.mpr ⟨⟨s_ldAn dX3_allHold_14 rfl, s_mo_ldA _ _⟩, (List.forall_mem_cons.mpr ⟨⟨s_ldIn dX3_allHold_15 rfl, s_mo_ldI _ _⟩, (List.forall_mem_cons.mpr ⟨⟨s_sS mk_34 mk_32 ok_32 (by decide +kernel) dX3_allHold_16 w_372 w_373, s_h0 mk_34⟩, (List.forall_mem_cons.mpr ⟨⟨s_ifeq dX3_allHold_19 (by decide), s_mo_ifeq _ _⟩, (List.forall_mem_cons.mpr ⟨⟨s_ldLn dX3_allHold_22 rfl, s_mo_ldL _ _⟩, (List.forall_mem_cons.mpr ⟨⟨s_bipush dX3_allHold_23 (by decide +kernel), s_mo_push _ _⟩, (List.forall_mem_cons.mpr ⟨⟨s_ldAn dX3_allHold_25 rfl, s_mo_ldA _ _⟩, (List.forall_mem_cons.mpr ⟨⟨s_ldIn dX3_allHold_26 rfl, s_mo_ldI _ _⟩, (List.forall_mem_cons.mpr ⟨⟨s_sS mk_34 mk_33 ok_33 (by decide +kernel) dX3_allHold_27 w_375 w_376, s_h0 mk_34⟩, (List.forall_mem_cons.mpr ⟨⟨s_isub dX3_allHold_30, s_mo_bin _ _⟩, (List.forall_mem_cons.mpr ⟨⟨s_i2l dX3_allHold_31, s_mo_i2l _⟩, (List.forall_mem_cons.mpr ⟨⟨s_lmul dX3_allHold_32, s_mo_binL _ _⟩, (List.forall_mem_cons.mpr ⟨⟨s_ldc2 w_387 dX3_allHold_33, s_mo_push _ _⟩, (List.forall_mem_cons.mpr ⟨⟨s_ldiv dX3_allHold_36, s_mo_divL _⟩, (List.forall_mem_cons.mpr ⟨⟨s_stLn dX3_allHold_37 rfl, s_mo_stL _ _⟩, (List.forall_mem_cons.mpr ⟨⟨s_inc dX3_allHold_38 (by decide +kernel), s_mo_inc _ _ _⟩, (List.forall_mem_cons.mpr ⟨⟨s_goto dX3_allHold_41 (by decide), s_mo_goto _⟩, (List.forall_mem_cons.mpr ⟨⟨s_ldLn dX3_allHold_44 rfl, s_mo_ldL _ _⟩, (List.forall_mem_cons.mpr ⟨⟨s_l2i dX3_allHold_45, s_mo_l2i _⟩, (List.forall_mem_cons.mpr ⟨s_r1 mk_34 dX3_allHold_46, (fun _ h => absurd h List.not_mem_nil)⟩)⟩)⟩)⟩)⟩)⟩)⟩)⟩)⟩)⟩)⟩)⟩)⟩)⟩)⟩)⟩)⟩)⟩)⟩)⟩)⟩)⟩)⟩)⟩)⟩)⟩)⟩)⟩)
theorem km_34 : ∀ t ∈ tm_34, s_tok 34 t := (List.forall_mem_cons.mpr ⟨s_lift mk_34 kb_34_0, (fun _ h => absurd h List.not_mem_nil)⟩)
theorem dX3_spreadOver_0 : decode cX3_spreadOver 0 = .ok (.aload_n 1, 1) := by decide +kernel
theorem dX3_spreadOver_1 : decode cX3_spreadOver 1 = .ok (.lconst 0, 1) := by decide +kernel
theorem dX3_spreadOver_2 : decode cX3_spreadOver 2 = .ok (.invokestatic 56, 3) := by decide +kernel
theorem dX3_spreadOver_5 : decode cX3_spreadOver 5 = .ok (.aload_n 1, 1) := by decide +kernel
theorem dX3_spreadOver_6 : decode cX3_spreadOver 6 = .ok (.iconst 0, 1) := by decide +kernel
theorem dX3_spreadOver_7 : decode cX3_spreadOver 7 = .ok (.ldc2_w 52, 3) := by decide +kernel
theorem dX3_spreadOver_10 : decode cX3_spreadOver 10 = .ok (.lastore, 1) := by decide +kernel
theorem dX3_spreadOver_11 : decode cX3_spreadOver 11 = .ok (.iconst 0, 1) := by decide +kernel
theorem dX3_spreadOver_12 : decode cX3_spreadOver 12 = .ok (.istore_n 2, 1) := by decide +kernel
theorem dX3_spreadOver_13 : decode cX3_spreadOver 13 = .ok (.iload_n 2, 1) := by decide +kernel
theorem dX3_spreadOver_14 : decode cX3_spreadOver 14 = .ok (.aload_n 0, 1) := by decide +kernel
theorem dX3_spreadOver_15 : decode cX3_spreadOver 15 = .ok (.getfield 9, 3) := by decide +kernel
theorem dX3_spreadOver_18 : decode cX3_spreadOver 18 = .ok (.if_icmp .ge 26, 3) := by decide +kernel
theorem dX3_spreadOver_21 : decode cX3_spreadOver 21 = .ok (.aload_n 0, 1) := by decide +kernel
theorem dX3_spreadOver_22 : decode cX3_spreadOver 22 = .ok (.iload_n 2, 1) := by decide +kernel
theorem dX3_spreadOver_23 : decode cX3_spreadOver 23 = .ok (.invokestatic 34, 3) := by decide +kernel
theorem dX3_spreadOver_26 : decode cX3_spreadOver 26 = .ok (.ifCond .eq 12, 3) := by decide +kernel
theorem dX3_spreadOver_29 : decode cX3_spreadOver 29 = .ok (.aload_n 1, 1) := by decide +kernel
theorem dX3_spreadOver_30 : decode cX3_spreadOver 30 = .ok (.aload_n 0, 1) := by decide +kernel
theorem dX3_spreadOver_31 : decode cX3_spreadOver 31 = .ok (.iload_n 2, 1) := by decide +kernel
theorem dX3_spreadOver_32 : decode cX3_spreadOver 32 = .ok (.invokestatic 38, 3) := by decide +kernel
theorem dX3_spreadOver_35 : decode cX3_spreadOver 35 = .ok (.invokestatic 62, 3) := by decide +kernel
theorem dX3_spreadOver_38 : decode cX3_spreadOver 38 = .ok (.iinc 2 1, 3) := by decide +kernel
theorem dX3_spreadOver_41 : decode cX3_spreadOver 41 = .ok (.goto (-28), 3) := by decide +kernel
theorem dX3_spreadOver_44 : decode cX3_spreadOver 44 = .ok (.return_, 1) := by decide +kernel
set_option maxRecDepth 20000 in
theorem kb_35_0 : ∀ q ∈ tb_35_0, s_atx 35 yX3_spreadOver cX3_spreadOver q.1 q.2 := (List.forall_mem_cons.mpr ⟨⟨s_ldAn dX3_spreadOver_0 rfl, s_mo_ldA _ _⟩, (List.forall_mem_cons.mpr ⟨⟨s_lconst dX3_spreadOver_1 (by decide +kernel), s_mo_push _ _⟩, (List.forall_mem_cons.mpr ⟨⟨s_sS mk_35 mk_261 ok_261 (by decide +kernel) dX3_spreadOver_2 w_368 w_369, s_h0 mk_35⟩, (List.forall_mem_cons.mpr ⟨⟨s_ldAn dX3_spreadOver_5 rfl, s_mo_ldA _ _⟩, (List.forall_mem_cons.mpr ⟨⟨s_iconst dX3_spreadOver_6 (by decide +kernel), s_mo_push _ _⟩, (List.forall_mem_cons.mpr ⟨⟨s_ldc2 w_371 dX3_spreadOver_7, s_mo_push _ _⟩, (List.forall_mem_cons.mpr ⟨⟨s_last dX3_spreadOver_10, s_mo_last _⟩, (List.forall_mem_cons.mpr ⟨⟨s_iconst dX3_spreadOver_11 (by decide +kernel), s_mo_push _ _⟩, (List.forall_mem_cons.mpr ⟨⟨s_stIn dX3_spreadOver_12 rfl, s_mo_stI _ _⟩, (List.forall_mem_cons.mpr ⟨⟨s_ldIn dX3_spreadOver_13 rfl, s_mo_ldI _ _⟩, (List.forall_mem_cons.mpr ⟨⟨s_ldAn dX3_spreadOver_14 rfl, s_mo_ldA _ _⟩, (List.forall_mem_cons.mpr ⟨⟨s_getf (ci := 0) (k := 2) rfl (by decide) inX0 w_58 dX3_spreadOver_15, s_mo_getf _ _ _⟩, (List.forall_mem_cons.mpr ⟨⟨s_icge dX3_spreadOver_18 (by decide), s_mo_icge _ _⟩, (List.forall_mem_cons.mpr ⟨⟨s_ldAn dX3_spreadOver_21 rfl, s_mo_ldA _ _⟩, (List.forall_mem_cons.mpr ⟨⟨s_ldIn dX3_spreadOver_22 rfl, s_mo_ldI _ _⟩, (List.forall_mem_cons.mpr ⟨⟨s_sS mk_35 mk_32 ok_32 (by decide +kernel) dX3_spreadOver_23 w_372 w_373, s_h0 mk_35⟩, (List.forall_mem_cons.mpr ⟨⟨s_ifeq dX3_spreadOver_26 (by decide), s_mo_ifeq _ _⟩, (List.forall_mem_cons.mpr ⟨⟨s_ldAn dX3_spreadOver_29 rfl, s_mo_ldA _ _⟩, (List.forall_mem_cons.mpr ⟨⟨s_ldAn dX3_spreadOver_30 rfl, s_mo_ldA _ _⟩, (List.forall_mem_cons.mpr ⟨⟨s_ldIn dX3_spreadOver_31 rfl, s_mo_ldI _ _⟩, (List.forall_mem_cons.mpr ⟨⟨s_sS mk_35 mk_33 ok_33 (by decide +kernel) dX3_spreadOver_32 w_375 w_376, s_h0 mk_35⟩, (List.forall_mem_cons.mpr ⟨⟨s_sS mk_35 mk_36 ok_36 (by decide +kernel) dX3_spreadOver_35 w_384 w_385, s_h0 mk_35⟩, (List.forall_mem_cons.mpr ⟨⟨s_inc dX3_spreadOver_38 (by decide +kernel), s_mo_inc _ _ _⟩, (List.forall_mem_cons.mpr ⟨⟨s_goto dX3_spreadOver_41 (by decide), s_mo_goto _⟩, (List.forall_mem_cons.mpr ⟨s_r0 mk_35 dX3_spreadOver_44, (fun _ h => absurd h List.not_mem_nil)⟩)⟩)⟩)⟩)⟩)⟩)⟩)⟩)⟩)⟩)⟩)⟩)⟩)⟩)⟩)⟩)⟩)⟩)⟩)⟩)⟩)⟩)⟩)⟩)⟩)
theorem km_35 : ∀ t ∈ tm_35, s_tok 35 t := (List.forall_mem_cons.mpr ⟨s_lift mk_35 kb_35_0, (fun _ h => absurd h List.not_mem_nil)⟩)
theorem dX3_addPane_0 : decode cX3_addPane 0 = .ok (.aload_n 0, 1) := by decide +kernel
theorem dX3_addPane_1 : decode cX3_addPane 1 = .ok (.arraylength, 1) := by decide +kernel
theorem dX3_addPane_2 : decode cX3_addPane 2 = .ok (.iconst 1, 1) := by decide +kernel
theorem dX3_addPane_3 : decode cX3_addPane 3 = .ok (.isub, 1) := by decide +kernel
theorem dX3_addPane_4 : decode cX3_addPane 4 = .ok (.istore_n 2, 1) := by decide +kernel
theorem dX3_addPane_5 : decode cX3_addPane 5 = .ok (.iload_n 2, 1) := by decide +kernel
theorem dX3_addPane_6 : decode cX3_addPane 6 = .ok (.ifCond .le 38, 3) := by decide +kernel
theorem dX3_addPane_9 : decode cX3_addPane 9 = .ok (.aload_n 0, 1) := by decide +kernel
theorem dX3_addPane_10 : decode cX3_addPane 10 = .ok (.iload_n 2, 1) := by decide +kernel
theorem dX3_addPane_11 : decode cX3_addPane 11 = .ok (.aload_n 0, 1) := by decide +kernel
theorem dX3_addPane_12 : decode cX3_addPane 12 = .ok (.iload_n 2, 1) := by decide +kernel
theorem dX3_addPane_13 : decode cX3_addPane 13 = .ok (.laload, 1) := by decide +kernel
theorem dX3_addPane_14 : decode cX3_addPane 14 = .ok (.bipush 100, 2) := by decide +kernel
theorem dX3_addPane_16 : decode cX3_addPane 16 = .ok (.iload_n 1, 1) := by decide +kernel
theorem dX3_addPane_17 : decode cX3_addPane 17 = .ok (.isub, 1) := by decide +kernel
theorem dX3_addPane_18 : decode cX3_addPane 18 = .ok (.i2l, 1) := by decide +kernel
theorem dX3_addPane_19 : decode cX3_addPane 19 = .ok (.lmul, 1) := by decide +kernel
theorem dX3_addPane_20 : decode cX3_addPane 20 = .ok (.ldc2_w 54, 3) := by decide +kernel
theorem dX3_addPane_23 : decode cX3_addPane 23 = .ok (.ldiv, 1) := by decide +kernel
theorem dX3_addPane_24 : decode cX3_addPane 24 = .ok (.aload_n 0, 1) := by decide +kernel
theorem dX3_addPane_25 : decode cX3_addPane 25 = .ok (.iload_n 2, 1) := by decide +kernel
theorem dX3_addPane_26 : decode cX3_addPane 26 = .ok (.iconst 1, 1) := by decide +kernel
theorem dX3_addPane_27 : decode cX3_addPane 27 = .ok (.isub, 1) := by decide +kernel
theorem dX3_addPane_28 : decode cX3_addPane 28 = .ok (.laload, 1) := by decide +kernel
theorem dX3_addPane_29 : decode cX3_addPane 29 = .ok (.iload_n 1, 1) := by decide +kernel
theorem dX3_addPane_30 : decode cX3_addPane 30 = .ok (.i2l, 1) := by decide +kernel
theorem dX3_addPane_31 : decode cX3_addPane 31 = .ok (.lmul, 1) := by decide +kernel
theorem dX3_addPane_32 : decode cX3_addPane 32 = .ok (.ldc2_w 54, 3) := by decide +kernel
theorem dX3_addPane_35 : decode cX3_addPane 35 = .ok (.ldiv, 1) := by decide +kernel
theorem dX3_addPane_36 : decode cX3_addPane 36 = .ok (.ladd, 1) := by decide +kernel
theorem dX3_addPane_37 : decode cX3_addPane 37 = .ok (.lastore, 1) := by decide +kernel
theorem dX3_addPane_38 : decode cX3_addPane 38 = .ok (.iinc 2 (-1), 3) := by decide +kernel
theorem dX3_addPane_41 : decode cX3_addPane 41 = .ok (.goto (-36), 3) := by decide +kernel
theorem dX3_addPane_44 : decode cX3_addPane 44 = .ok (.aload_n 0, 1) := by decide +kernel
theorem dX3_addPane_45 : decode cX3_addPane 45 = .ok (.iconst 0, 1) := by decide +kernel
theorem dX3_addPane_46 : decode cX3_addPane 46 = .ok (.aload_n 0, 1) := by decide +kernel
theorem dX3_addPane_47 : decode cX3_addPane 47 = .ok (.iconst 0, 1) := by decide +kernel
theorem dX3_addPane_48 : decode cX3_addPane 48 = .ok (.laload, 1) := by decide +kernel
theorem dX3_addPane_49 : decode cX3_addPane 49 = .ok (.bipush 100, 2) := by decide +kernel
theorem dX3_addPane_51 : decode cX3_addPane 51 = .ok (.iload_n 1, 1) := by decide +kernel
theorem dX3_addPane_52 : decode cX3_addPane 52 = .ok (.isub, 1) := by decide +kernel
theorem dX3_addPane_53 : decode cX3_addPane 53 = .ok (.i2l, 1) := by decide +kernel
theorem dX3_addPane_54 : decode cX3_addPane 54 = .ok (.lmul, 1) := by decide +kernel
theorem dX3_addPane_55 : decode cX3_addPane 55 = .ok (.ldc2_w 54, 3) := by decide +kernel
theorem dX3_addPane_58 : decode cX3_addPane 58 = .ok (.ldiv, 1) := by decide +kernel
theorem dX3_addPane_59 : decode cX3_addPane 59 = .ok (.lastore, 1) := by decide +kernel
theorem dX3_addPane_60 : decode cX3_addPane 60 = .ok (.return_, 1) := by decide +kernel
set_option maxRecDepth 20000 in
theorem kb_36_0 : ∀ q ∈ tb_36_0, s_atx 36 yX3_addPane cX3_addPane q.1 q.2 := (List.forall_mem_cons.mpr ⟨⟨s_ldAn dX3_addPane_0 rfl, s_mo_ldA _ _⟩, (List.forall_mem_cons.mpr ⟨⟨s_alen dX3_addPane_1, s_mo_alen _⟩, (List.forall_mem_cons.mpr ⟨⟨s_iconst dX3_addPane_2 (by decide +kernel), s_mo_push _ _⟩, (List.forall_mem_cons.mpr ⟨⟨s_isub dX3_addPane_3, s_mo_bin _ _⟩, (List.forall_mem_cons.mpr ⟨⟨s_stIn dX3_addPane_4 rfl, s_mo_stI _ _⟩, (List.forall_mem_cons.mpr ⟨⟨s_ldIn dX3_addPane_5 rfl, s_mo_ldI _ _⟩, (List.forall_mem_cons.mpr ⟨⟨s_ifle dX3_addPane_6 (by decide), s_mo_ifle _ _⟩, (List.forall_mem_cons.mpr ⟨⟨s_ldAn dX3_addPane_9 rfl, s_mo_ldA _ _⟩, (List.forall_mem_cons.mpr ⟨⟨s_ldIn dX3_addPane_10 rfl, s_mo_ldI _ _⟩, (List.forall_mem_cons.mpr ⟨⟨s_ldAn dX3_addPane_11 rfl, s_mo_ldA _ _⟩, (List.forall_mem_cons.mpr ⟨⟨s_ldIn dX3_addPane_12 rfl, s_mo_ldI _ _⟩, (List.forall_mem_cons.mpr ⟨⟨s_lald dX3_addPane_13, s_mo_lald _⟩, (List.forall_mem_cons.mpr ⟨⟨s_bipush dX3_addPane_14 (by decide +kernel), s_mo_push _ _⟩, (List.forall_mem_cons.mpr ⟨⟨s_ldIn dX3_addPane_16 rfl, s_mo_ldI _ _⟩, (List.forall_mem_cons.mpr ⟨⟨s_isub dX3_addPane_17, s_mo_bin _ _⟩, (List.forall_mem_cons.mpr ⟨⟨s_i2l dX3_addPane_18, s_mo_i2l _⟩, (List.forall_mem_cons.mpr ⟨⟨s_lmul dX3_addPane_19, s_mo_binL _ _⟩, (List.forall_mem_cons.mpr ⟨⟨s_ldc2 w_387 dX3_addPane_20, s_mo_push _ _⟩, (List.forall_mem_cons.mpr ⟨⟨s_ldiv dX3_addPane_23, s_mo_divL _⟩, (List.forall_mem_cons.mpr ⟨⟨s_ldAn dX3_addPane_24 rfl, s_mo_ldA _ _⟩, (List.forall_mem_cons.mpr ⟨⟨s_ldIn dX3_addPane_25 rfl, s_mo_ldI _ _⟩, (List.forall_mem_cons.mpr ⟨⟨s_iconst dX3_addPane_26 (by decide +kernel), s_mo_push _ _⟩, (List.forall_mem_cons.mpr ⟨⟨s_isub dX3_addPane_27, s_mo_bin _ _⟩, (List.forall_mem_cons.mpr ⟨⟨s_lald dX3_addPane_28, s_mo_lald _⟩, (List.forall_mem_cons.mpr ⟨⟨s_ldIn dX3_addPane_29 rfl, s_mo_ldI _ _⟩, (List.forall_mem_cons.mpr ⟨⟨s_i2l dX3_addPane_30, s_mo_i2l _⟩, (List.forall_mem_cons.mpr ⟨⟨s_lmul dX3_addPane_31, s_mo_binL _ _⟩, (List.forall_mem_cons.mpr ⟨⟨s_ldc2 w_387 dX3_addPane_32, s_mo_push _ _⟩, (List.forall_mem_cons.mpr ⟨⟨s_ldiv dX3_addPane_35, s_mo_divL _⟩, (List.forall_mem_cons.mpr ⟨⟨s_ladd dX3_addPane_36, s_mo_binL _ _⟩, (List.forall_mem_cons.mpr ⟨⟨s_last dX3_addPane_37, s_mo_last _⟩, (List.forall_mem_cons.mpr ⟨⟨s_inc dX3_addPane_38 (by decide +kernel), s_mo_inc _ _ _⟩, (List.forall_mem_cons.mpr ⟨⟨s_goto dX3_addPane_41 (by decide), s_mo_goto _⟩, (List.forall_mem_cons.mpr ⟨⟨s_ldAn dX3_addPane_44 rfl, s_mo_ldA _ _⟩, (List.forall_mem_cons.mpr ⟨⟨s_iconst dX3_addPane_45 (by decide +kernel), s_mo_push _ _⟩, (List.forall_mem_cons.mpr ⟨⟨s_ldAn dX3_addPane_46 rfl, s_mo_ldA _ _⟩, (List.forall_mem_cons.mpr ⟨⟨s_iconst dX3_addPane_47 (by decide +kernel), s_mo_push _ _⟩, (List.forall_mem_cons.mpr ⟨⟨s_lald dX3_addPane_48, s_mo_lald _⟩, (List.forall_mem_cons.mpr ⟨⟨s_bipush dX3_addPane_49 (by decide +kernel), s_mo_push _ _⟩, (List.forall_mem_cons.mpr ⟨⟨s_ldIn dX3_addPane_51 rfl, s_mo_ldI _ _⟩, (List.forall_mem_cons.mpr ⟨⟨s_isub dX3_addPane_52, s_mo_bin _ _⟩, (List.forall_mem_cons.mpr ⟨⟨s_i2l dX3_addPane_53, s_mo_i2l _⟩, (List.forall_mem_cons.mpr ⟨⟨s_lmul dX3_addPane_54, s_mo_binL _ _⟩, (List.forall_mem_cons.mpr ⟨⟨s_ldc2 w_387 dX3_addPane_55, s_mo_push _ _⟩, (List.forall_mem_cons.mpr ⟨⟨s_ldiv dX3_addPane_58, s_mo_divL _⟩, (List.forall_mem_cons.mpr ⟨⟨s_last dX3_addPane_59, s_mo_last _⟩, (List.forall_mem_cons.mpr ⟨s_r0 mk_36 dX3_addPane_60, (fun _ h => absurd h List.not_mem_nil)⟩)⟩)⟩)⟩)⟩)⟩)⟩)⟩)⟩)⟩)⟩)⟩)⟩)⟩)⟩)⟩)⟩)⟩)⟩)⟩)⟩)⟩)⟩)⟩)⟩)⟩)⟩)⟩)⟩)⟩)⟩)⟩)⟩)⟩)⟩)⟩)⟩)⟩)⟩)⟩)⟩)⟩)⟩)⟩)⟩)⟩)⟩)
theorem km_36 : ∀ t ∈ tm_36, s_tok 36 t := (List.forall_mem_cons.mpr ⟨s_lift mk_36 kb_36_0, (fun _ h => absurd h List.not_mem_nil)⟩)
theorem dX4_costOf_0 : decode cX4_costOf 0 = .ok (.bipush 50, 2) := by decide +kernel
theorem dX4_costOf_2 : decode cX4_costOf 2 = .ok (.bipush 25, 2) := by decide +kernel
theorem dX4_costOf_4 : decode cX4_costOf 4 = .ok (.aload_n 0, 1) := by decide +kernel
theorem dX4_costOf_5 : decode cX4_costOf 5 = .ok (.iconst 1, 1) := by decide +kernel
theorem dX4_costOf_6 : decode cX4_costOf 6 = .ok (.iload_n 1, 1) := by decide +kernel
theorem dX4_costOf_7 : decode cX4_costOf 7 = .ok (.ishl, 1) := by decide +kernel
theorem dX4_costOf_8 : decode cX4_costOf 8 = .ok (.invokevirtual 9, 3) := by decide +kernel
theorem dX4_costOf_11 : decode cX4_costOf 11 = .ok (.invokestatic 15, 3) := by decide +kernel
theorem dX4_costOf_14 : decode cX4_costOf 14 = .ok (.imul, 1) := by decide +kernel
theorem dX4_costOf_15 : decode cX4_costOf 15 = .ok (.iadd, 1) := by decide +kernel
theorem dX4_costOf_16 : decode cX4_costOf 16 = .ok (.istore 4, 2) := by decide +kernel
theorem dX4_costOf_18 : decode cX4_costOf 18 = .ok (.iload_n 3, 1) := by decide +kernel
theorem dX4_costOf_19 : decode cX4_costOf 19 = .ok (.istore 5, 2) := by decide +kernel
theorem dX4_costOf_21 : decode cX4_costOf 21 = .ok (.iconst 0, 1) := by decide +kernel
theorem dX4_costOf_22 : decode cX4_costOf 22 = .ok (.istore 6, 2) := by decide +kernel
theorem dX4_costOf_24 : decode cX4_costOf 24 = .ok (.iconst 0, 1) := by decide +kernel
theorem dX4_costOf_25 : decode cX4_costOf 25 = .ok (.istore 7, 2) := by decide +kernel
theorem dX4_costOf_27 : decode cX4_costOf 27 = .ok (.iload 7, 2) := by decide +kernel
theorem dX4_costOf_29 : decode cX4_costOf 29 = .ok (.bipush 8, 2) := by decide +kernel
theorem dX4_costOf_31 : decode cX4_costOf 31 = .ok (.if_icmp .ge 44, 3) := by decide +kernel
theorem dX4_costOf_34 : decode cX4_costOf 34 = .ok (.aload_n 0, 1) := by decide +kernel
theorem dX4_costOf_35 : decode cX4_costOf 35 = .ok (.iload_n 1, 1) := by decide +kernel
theorem dX4_costOf_36 : decode cX4_costOf 36 = .ok (.iload 7, 2) := by decide +kernel
theorem dX4_costOf_38 : decode cX4_costOf 38 = .ok (.invokestatic 20, 3) := by decide +kernel
theorem dX4_costOf_41 : decode cX4_costOf 41 = .ok (.istore 8, 2) := by decide +kernel
theorem dX4_costOf_43 : decode cX4_costOf 43 = .ok (.iload 5, 2) := by decide +kernel
theorem dX4_costOf_45 : decode cX4_costOf 45 = .ok (.iload_n 3, 1) := by decide +kernel
theorem dX4_costOf_46 : decode cX4_costOf 46 = .ok (.iload 8, 2) := by decide +kernel
theorem dX4_costOf_48 : decode cX4_costOf 48 = .ok (.imul, 1) := by decide +kernel
theorem dX4_costOf_49 : decode cX4_costOf 49 = .ok (.iload 4, 2) := by decide +kernel
theorem dX4_costOf_51 : decode cX4_costOf 51 = .ok (.idiv, 1) := by decide +kernel
theorem dX4_costOf_52 : decode cX4_costOf 52 = .ok (.isub, 1) := by decide +kernel
theorem dX4_costOf_53 : decode cX4_costOf 53 = .ok (.istore 5, 2) := by decide +kernel
theorem dX4_costOf_55 : decode cX4_costOf 55 = .ok (.iload 8, 2) := by decide +kernel
theorem dX4_costOf_57 : decode cX4_costOf 57 = .ok (.ifCond .le 12, 3) := by decide +kernel
theorem dX4_costOf_60 : decode cX4_costOf 60 = .ok (.iload 7, 2) := by decide +kernel
theorem dX4_costOf_62 : decode cX4_costOf 62 = .ok (.iload_n 2, 1) := by decide +kernel
theorem dX4_costOf_63 : decode cX4_costOf 63 = .ok (.if_icmp .ge 6, 3) := by decide +kernel
theorem dX4_costOf_66 : decode cX4_costOf 66 = .ok (.iinc 6 1, 3) := by decide +kernel
theorem dX4_costOf_69 : decode cX4_costOf 69 = .ok (.iinc 7 1, 3) := by decide +kernel
theorem dX4_costOf_72 : decode cX4_costOf 72 = .ok (.goto (-45), 3) := by decide +kernel
theorem dX4_costOf_75 : decode cX4_costOf 75 = .ok (.aload_n 0, 1) := by decide +kernel
theorem dX4_costOf_76 : decode cX4_costOf 76 = .ok (.iload_n 1, 1) := by decide +kernel
theorem dX4_costOf_77 : decode cX4_costOf 77 = .ok (.iload_n 2, 1) := by decide +kernel
theorem dX4_costOf_78 : decode cX4_costOf 78 = .ok (.invokestatic 20, 3) := by decide +kernel
theorem dX4_costOf_81 : decode cX4_costOf 81 = .ok (.istore 7, 2) := by decide +kernel
theorem dX4_costOf_83 : decode cX4_costOf 83 = .ok (.iload 7, 2) := by decide +kernel
theorem dX4_costOf_85 : decode cX4_costOf 85 = .ok (.ifCond .ne 5, 3) := by decide +kernel
theorem dX4_costOf_88 : decode cX4_costOf 88 = .ok (.iconst 0, 1) := by decide +kernel
theorem dX4_costOf_89 : decode cX4_costOf 89 = .ok (.ireturn, 1) := by decide +kernel
theorem dX4_costOf_90 : decode cX4_costOf 90 = .ok (.iload_n 3, 1) := by decide +kernel
theorem dX4_costOf_91 : decode cX4_costOf 91 = .ok (.iload 7, 2) := by decide +kernel
theorem dX4_costOf_93 : decode cX4_costOf 93 = .ok (.imul, 1) := by decide +kernel
theorem dX4_costOf_94 : decode cX4_costOf 94 = .ok (.iload 4, 2) := by decide +kernel
theorem dX4_costOf_96 : decode cX4_costOf 96 = .ok (.idiv, 1) := by decide +kernel
theorem dX4_costOf_97 : decode cX4_costOf 97 = .ok (.iload 6, 2) := by decide +kernel
theorem dX4_costOf_99 : decode cX4_costOf 99 = .ok (.iload 5, 2) := by decide +kernel
theorem dX4_costOf_101 : decode cX4_costOf 101 = .ok (.if_icmp .ge 7, 3) := by decide +kernel
theorem dX4_costOf_104 : decode cX4_costOf 104 = .ok (.iconst 1, 1) := by decide +kernel
theorem dX4_costOf_105 : decode cX4_costOf 105 = .ok (.goto 4, 3) := by decide +kernel
theorem dX4_costOf_108 : decode cX4_costOf 108 = .ok (.iconst 0, 1) := by decide +kernel
theorem dX4_costOf_109 : decode cX4_costOf 109 = .ok (.iadd, 1) := by decide +kernel
theorem dX4_costOf_110 : decode cX4_costOf 110 = .ok (.ireturn, 1) := by decide +kernel
set_option maxRecDepth 20000 in
theorem kb_37_0 : ∀ q ∈ tb_37_0, s_atx 37 yX4_costOf cX4_costOf q.1 q.2 := (List.forall_mem_cons.mpr ⟨⟨s_bipush dX4_costOf_0 (by decide +kernel), s_mo_push _ _⟩, (List.forall_mem_cons.mpr ⟨⟨s_bipush dX4_costOf_2 (by decide +kernel), s_mo_push _ _⟩, (List.forall_mem_cons.mpr ⟨⟨s_ldAn dX4_costOf_4 rfl, s_mo_ldA _ _⟩, (List.forall_mem_cons.mpr ⟨⟨s_iconst dX4_costOf_5 (by decide +kernel), s_mo_push _ _⟩, (List.forall_mem_cons.mpr ⟨⟨s_ldIn dX4_costOf_6 rfl, s_mo_ldI _ _⟩, (List.forall_mem_cons.mpr ⟨⟨s_ishl dX4_costOf_7, s_mo_bin _ _⟩, (List.forall_mem_cons.mpr ⟨⟨s_sV mk_37 mk_4 ok_4 (by decide +kernel) dX4_costOf_8 w_1028 w_407 w_408 (Or.inr ⟨0, _, _, rfl, rfl⟩), s_h0 mk_37⟩, (List.forall_mem_cons.mpr ⟨⟨s_sS mk_37 mk_254 ok_254 (by decide +kernel) dX4_costOf_11 w_1029 w_422, s_h0 mk_37⟩, (List.forall_mem_cons.mpr ⟨⟨s_imul dX4_costOf_14, s_mo_bin _ _⟩, (List.forall_mem_cons.mpr ⟨⟨s_iadd dX4_costOf_15, s_mo_bin _ _⟩, (List.forall_mem_cons.mpr ⟨⟨s_stI dX4_costOf_16, s_mo_stI _ _⟩, (List.forall_mem_cons.mpr ⟨⟨s_ldIn dX4_costOf_18 rfl, s_mo_ldI _ _⟩, (List.forall_mem_cons.mpr ⟨⟨s_stI dX4_costOf_19, s_mo_stI _ _⟩, (List.forall_mem_cons.mpr ⟨⟨s_iconst dX4_costOf_21 (by decide +kernel), s_mo_push _ _⟩, (List.forall_mem_cons.mpr ⟨⟨s_stI dX4_costOf_22, s_mo_stI _ _⟩, (List.forall_mem_cons.mpr ⟨⟨s_iconst dX4_costOf_24 (by decide +kernel), s_mo_push _ _⟩, (List.forall_mem_cons.mpr ⟨⟨s_stI dX4_costOf_25, s_mo_stI _ _⟩, (List.forall_mem_cons.mpr ⟨⟨s_ldI dX4_costOf_27, s_mo_ldI _ _⟩, (List.forall_mem_cons.mpr ⟨⟨s_bipush dX4_costOf_29 (by decide +kernel), s_mo_push _ _⟩, (List.forall_mem_cons.mpr ⟨⟨s_icge dX4_costOf_31 (by decide), s_mo_icge _ _⟩, (List.forall_mem_cons.mpr ⟨⟨s_ldAn dX4_costOf_34 rfl, s_mo_ldA _ _⟩, (List.forall_mem_cons.mpr ⟨⟨s_ldIn dX4_costOf_35 rfl, s_mo_ldI _ _⟩, (List.forall_mem_cons.mpr ⟨⟨s_ldI dX4_costOf_36, s_mo_ldI _ _⟩, (List.forall_mem_cons.mpr ⟨⟨s_sS mk_37 mk_38 ok_38 (by decide +kernel) dX4_costOf_38 w_1030 w_1031, s_h0 mk_37⟩, (List.forall_mem_cons.mpr ⟨⟨s_stI dX4_costOf_41, s_mo_stI _ _⟩, (List.forall_mem_cons.mpr ⟨⟨s_ldI dX4_costOf_43, s_mo_ldI _ _⟩, (List.forall_mem_cons.mpr ⟨⟨s_ldIn dX4_costOf_45 rfl, s_mo_ldI _ _⟩, (List.forall_mem_cons.mpr ⟨⟨s_ldI dX4_costOf_46, s_mo_ldI _ _⟩, (List.forall_mem_cons.mpr ⟨⟨s_imul dX4_costOf_48, s_mo_bin _ _⟩, (List.forall_mem_cons.mpr ⟨⟨s_ldI dX4_costOf_49, s_mo_ldI _ _⟩, (List.forall_mem_cons.mpr ⟨⟨s_idiv dX4_costOf_51, s_mo_div _⟩, (List.forall_mem_cons.mpr ⟨⟨s_isub dX4_costOf_52, s_mo_bin _ _⟩, (List.forall_mem_cons.mpr ⟨⟨s_stI dX4_costOf_53, s_mo_stI _ _⟩, (List.forall_mem_cons.mpr ⟨⟨s_ldI dX4_costOf_55, s_mo_ldI _ _⟩, (List.forall_mem_cons.mpr ⟨⟨s_ifle dX4_costOf_57 (by decide), s_mo_ifle _ _⟩, (List.forall_mem_cons.mpr ⟨⟨s_ldI dX4_costOf_60, s_mo_ldI _ _⟩, (List.forall_mem_cons.mpr ⟨⟨s_ldIn dX4_costOf_62 rfl, s_mo_ldI _ _⟩, (List.forall_mem_cons.mpr ⟨⟨s_icge dX4_costOf_63 (by decide), s_mo_icge _ _⟩, (fun _ h => absurd h List.not_mem_nil)⟩)⟩)⟩)⟩)⟩)⟩)⟩)⟩)⟩)⟩)⟩)⟩)⟩)⟩)⟩)⟩)⟩)⟩)⟩)⟩)⟩)⟩)⟩)⟩)⟩)⟩)⟩)⟩)⟩)⟩)⟩)⟩)⟩)⟩)⟩)⟩)⟩)⟩)
set_option maxRecDepth 20000 in
theorem kb_37_1 : ∀ q ∈ tb_37_1, s_atx 37 yX4_costOf cX4_costOf q.1 q.2 := (List.forall_mem_cons.mpr ⟨⟨s_inc dX4_costOf_66 (by decide +kernel), s_mo_inc _ _ _⟩, (List.forall_mem_cons.mpr ⟨⟨s_inc dX4_costOf_69 (by decide +kernel), s_mo_inc _ _ _⟩, (List.forall_mem_cons.mpr ⟨⟨s_goto dX4_costOf_72 (by decide), s_mo_goto _⟩, (List.forall_mem_cons.mpr ⟨⟨s_ldAn dX4_costOf_75 rfl, s_mo_ldA _ _⟩, (List.forall_mem_cons.mpr ⟨⟨s_ldIn dX4_costOf_76 rfl, s_mo_ldI _ _⟩, (List.forall_mem_cons.mpr ⟨⟨s_ldIn dX4_costOf_77 rfl, s_mo_ldI _ _⟩, (List.forall_mem_cons.mpr ⟨⟨s_sS mk_37 mk_38 ok_38 (by decide +kernel) dX4_costOf_78 w_1030 w_1031, s_h0 mk_37⟩, (List.forall_mem_cons.mpr ⟨⟨s_stI dX4_costOf_81, s_mo_stI _ _⟩, (List.forall_mem_cons.mpr ⟨⟨s_ldI dX4_costOf_83, s_mo_ldI _ _⟩, (List.forall_mem_cons.mpr ⟨⟨s_ifne dX4_costOf_85 (by decide), s_mo_ifne _ _⟩, (List.forall_mem_cons.mpr ⟨⟨s_iconst dX4_costOf_88 (by decide +kernel), s_mo_push _ _⟩, (List.forall_mem_cons.mpr ⟨s_r1 mk_37 dX4_costOf_89, (List.forall_mem_cons.mpr ⟨⟨s_ldIn dX4_costOf_90 rfl, s_mo_ldI _ _⟩, (List.forall_mem_cons.mpr ⟨⟨s_ldI dX4_costOf_91, s_mo_ldI _ _⟩, (List.forall_mem_cons.mpr ⟨⟨s_imul dX4_costOf_93, s_mo_bin _ _⟩, (List.forall_mem_cons.mpr ⟨⟨s_ldI dX4_costOf_94, s_mo_ldI _ _⟩, (List.forall_mem_cons.mpr ⟨⟨s_idiv dX4_costOf_96, s_mo_div _⟩, (List.forall_mem_cons.mpr ⟨⟨s_ldI dX4_costOf_97, s_mo_ldI _ _⟩, (List.forall_mem_cons.mpr ⟨⟨s_ldI dX4_costOf_99, s_mo_ldI _ _⟩, (List.forall_mem_cons.mpr ⟨⟨s_icge dX4_costOf_101 (by decide), s_mo_icge _ _⟩, (List.forall_mem_cons.mpr ⟨⟨s_iconst dX4_costOf_104 (by decide +kernel), s_mo_push _ _⟩, (List.forall_mem_cons.mpr ⟨⟨s_goto dX4_costOf_105 (by decide), s_mo_goto _⟩, (List.forall_mem_cons.mpr ⟨⟨s_iconst dX4_costOf_108 (by decide +kernel), s_mo_push _ _⟩, (List.forall_mem_cons.mpr ⟨⟨s_iadd dX4_costOf_109, s_mo_bin _ _⟩, (List.forall_mem_cons.mpr ⟨s_r1 mk_37 dX4_costOf_110, (fun _ h => absurd h List.not_mem_nil)⟩)⟩)⟩)⟩)⟩)⟩)⟩)⟩)⟩)⟩)⟩)⟩)⟩)⟩)⟩)⟩)⟩)⟩)⟩)⟩)⟩)⟩)⟩)⟩)⟩)
theorem km_37 : ∀ t ∈ tm_37, s_tok 37 t := (List.forall_mem_cons.mpr ⟨s_lift mk_37 kb_37_0, (List.forall_mem_cons.mpr ⟨s_lift mk_37 kb_37_1, (fun _ h => absurd h List.not_mem_nil)⟩)⟩)
theorem dX4_given_0 : decode cX4_given 0 = .ok (.aload_n 0, 1) := by decide +kernel
theorem dX4_given_1 : decode cX4_given 1 = .ok (.getfield 26, 3) := by decide +kernel
theorem dX4_given_4 : decode cX4_given 4 = .ok (.iload_n 1, 1) := by decide +kernel
theorem dX4_given_5 : decode cX4_given 5 = .ok (.iaload, 1) := by decide +kernel
theorem dX4_given_6 : decode cX4_given 6 = .ok (.iload_n 2, 1) := by decide +kernel
theorem dX4_given_7 : decode cX4_given 7 = .ok (.if_icmp .ne 8, 3) := by decide +kernel
theorem dX4_given_10 : decode cX4_given 10 = .ok (.bipush 50, 2) := by decide +kernel
theorem dX4_given_12 : decode cX4_given 12 = .ok (.goto 4, 3) := by decide +kernel
theorem dX4_given_15 : decode cX4_given 15 = .ok (.iconst 0, 1) := by decide +kernel
theorem dX4_given_16 : decode cX4_given 16 = .ok (.istore_n 3, 1) := by decide +kernel
theorem dX4_given_17 : decode cX4_given 17 = .ok (.iconst 0, 1) := by decide +kernel
theorem dX4_given_18 : decode cX4_given 18 = .ok (.istore 4, 2) := by decide +kernel
theorem dX4_given_20 : decode cX4_given 20 = .ok (.iload 4, 2) := by decide +kernel
theorem dX4_given_22 : decode cX4_given 22 = .ok (.iconst 4, 1) := by decide +kernel
theorem dX4_given_23 : decode cX4_given 23 = .ok (.if_icmp .ge 38, 3) := by decide +kernel
theorem dX4_given_26 : decode cX4_given 26 = .ok (.aload_n 0, 1) := by decide +kernel
theorem dX4_given_27 : decode cX4_given 27 = .ok (.iload_n 1, 1) := by decide +kernel
theorem dX4_given_28 : decode cX4_given 28 = .ok (.iload 4, 2) := by decide +kernel
theorem dX4_given_30 : decode cX4_given 30 = .ok (.invokevirtual 30, 3) := by decide +kernel
theorem dX4_given_33 : decode cX4_given 33 = .ok (.istore 5, 2) := by decide +kernel
theorem dX4_given_35 : decode cX4_given 35 = .ok (.iload 5, 2) := by decide +kernel
theorem dX4_given_37 : decode cX4_given 37 = .ok (.iconst (-1), 1) := by decide +kernel
theorem dX4_given_38 : decode cX4_given 38 = .ok (.if_icmp .eq 17, 3) := by decide +kernel
theorem dX4_given_41 : decode cX4_given 41 = .ok (.aload_n 0, 1) := by decide +kernel
theorem dX4_given_42 : decode cX4_given 42 = .ok (.getfield 26, 3) := by decide +kernel
theorem dX4_given_45 : decode cX4_given 45 = .ok (.iload 5, 2) := by decide +kernel
theorem dX4_given_47 : decode cX4_given 47 = .ok (.iaload, 1) := by decide +kernel
theorem dX4_given_48 : decode cX4_given 48 = .ok (.iload_n 2, 1) := by decide +kernel
theorem dX4_given_49 : decode cX4_given 49 = .ok (.if_icmp .ne 6, 3) := by decide +kernel
theorem dX4_given_52 : decode cX4_given 52 = .ok (.iinc 3 25, 3) := by decide +kernel
theorem dX4_given_55 : decode cX4_given 55 = .ok (.iinc 4 1, 3) := by decide +kernel
theorem dX4_given_58 : decode cX4_given 58 = .ok (.goto (-38), 3) := by decide +kernel
theorem dX4_given_61 : decode cX4_given 61 = .ok (.iload_n 3, 1) := by decide +kernel
theorem dX4_given_62 : decode cX4_given 62 = .ok (.ireturn, 1) := by decide +kernel
set_option maxRecDepth 20000 in
theorem kb_38_0 : ∀ q ∈ tb_38_0, s_atx 38 yX4_given cX4_given q.1 q.2 := (List.forall_mem_cons.mpr ⟨⟨s_ldAn dX4_given_0 rfl, s_mo_ldA _ _⟩, (List.forall_mem_cons.mpr ⟨⟨s_getf (ci := 0) (k := 10) rfl (by decide) inX0 w_96 dX4_given_1, s_mo_getf _ _ _⟩, (List.forall_mem_cons.mpr ⟨⟨s_ldIn dX4_given_4 rfl, s_mo_ldI _ _⟩, (List.forall_mem_cons.mpr ⟨⟨s_iald dX4_given_5, s_mo_iald _⟩, (List.forall_mem_cons.mpr ⟨⟨s_ldIn dX4_given_6 rfl, s_mo_ldI _ _⟩, (List.forall_mem_cons.mpr ⟨⟨s_icne dX4_given_7 (by decide), s_mo_icne _ _⟩, (List.forall_mem_cons.mpr ⟨⟨s_bipush dX4_given_10 (by decide +kernel), s_mo_push _ _⟩, (List.forall_mem_cons.mpr ⟨⟨s_goto dX4_given_12 (by decide), s_mo_goto _⟩, (List.forall_mem_cons.mpr ⟨⟨s_iconst dX4_given_15 (by decide +kernel), s_mo_push _ _⟩, (List.forall_mem_cons.mpr ⟨⟨s_stIn dX4_given_16 rfl, s_mo_stI _ _⟩, (List.forall_mem_cons.mpr ⟨⟨s_iconst dX4_given_17 (by decide +kernel), s_mo_push _ _⟩, (List.forall_mem_cons.mpr ⟨⟨s_stI dX4_given_18, s_mo_stI _ _⟩, (List.forall_mem_cons.mpr ⟨⟨s_ldI dX4_given_20, s_mo_ldI _ _⟩, (List.forall_mem_cons.mpr ⟨⟨s_iconst dX4_given_22 (by decide +kernel), s_mo_push _ _⟩, (List.forall_mem_cons.mpr ⟨⟨s_icge dX4_given_23 (by decide), s_mo_icge _ _⟩, (List.forall_mem_cons.mpr ⟨⟨s_ldAn dX4_given_26 rfl, s_mo_ldA _ _⟩, (List.forall_mem_cons.mpr ⟨⟨s_ldIn dX4_given_27 rfl, s_mo_ldI _ _⟩, (List.forall_mem_cons.mpr ⟨⟨s_ldI dX4_given_28, s_mo_ldI _ _⟩, (List.forall_mem_cons.mpr ⟨⟨s_sV mk_38 mk_3 ok_3 (by decide +kernel) dX4_given_30 w_1033 w_1034 w_1035 (Or.inr ⟨0, _, _, rfl, rfl⟩), s_h0 mk_38⟩, (List.forall_mem_cons.mpr ⟨⟨s_stI dX4_given_33, s_mo_stI _ _⟩, (List.forall_mem_cons.mpr ⟨⟨s_ldI dX4_given_35, s_mo_ldI _ _⟩, (List.forall_mem_cons.mpr ⟨⟨s_iconst dX4_given_37 (by decide +kernel), s_mo_push _ _⟩, (List.forall_mem_cons.mpr ⟨⟨s_iceq dX4_given_38 (by decide), s_mo_iceq _ _⟩, (List.forall_mem_cons.mpr ⟨⟨s_ldAn dX4_given_41 rfl, s_mo_ldA _ _⟩, (List.forall_mem_cons.mpr ⟨⟨s_getf (ci := 0) (k := 10) rfl (by decide) inX0 w_96 dX4_given_42, s_mo_getf _ _ _⟩, (List.forall_mem_cons.mpr ⟨⟨s_ldI dX4_given_45, s_mo_ldI _ _⟩, (List.forall_mem_cons.mpr ⟨⟨s_iald dX4_given_47, s_mo_iald _⟩, (List.forall_mem_cons.mpr ⟨⟨s_ldIn dX4_given_48 rfl, s_mo_ldI _ _⟩, (List.forall_mem_cons.mpr ⟨⟨s_icne dX4_given_49 (by decide), s_mo_icne _ _⟩, (List.forall_mem_cons.mpr ⟨⟨s_inc dX4_given_52 (by decide +kernel), s_mo_inc _ _ _⟩, (List.forall_mem_cons.mpr ⟨⟨s_inc dX4_given_55 (by decide +kernel), s_mo_inc _ _ _⟩, (List.forall_mem_cons.mpr ⟨⟨s_goto dX4_given_58 (by decide), s_mo_goto _⟩, (List.forall_mem_cons.mpr ⟨⟨s_ldIn dX4_given_61 rfl, s_mo_ldI _ _⟩, (List.forall_mem_cons.mpr ⟨s_r1 mk_38 dX4_given_62, (fun _ h => absurd h List.not_mem_nil)⟩)⟩)⟩)⟩)⟩)⟩)⟩)⟩)⟩)⟩)⟩)⟩)⟩)⟩)⟩)⟩)⟩)⟩)⟩)⟩)⟩)⟩)⟩)⟩)⟩)⟩)⟩)⟩)⟩)⟩)⟩)⟩)⟩)⟩)
theorem km_38 : ∀ t ∈ tm_38, s_tok 38 t := (List.forall_mem_cons.mpr ⟨s_lift mk_38 kb_38_0, (fun _ h => absurd h List.not_mem_nil)⟩)
theorem dX4_fewest_0 : decode cX4_fewest 0 = .ok (.iconst 0, 1) := by decide +kernel
theorem dX4_fewest_1 : decode cX4_fewest 1 = .ok (.istore_n 3, 1) := by decide +kernel
theorem dX4_fewest_2 : decode cX4_fewest 2 = .ok (.iconst 0, 1) := by decide +kernel
theorem dX4_fewest_3 : decode cX4_fewest 3 = .ok (.istore 4, 2) := by decide +kernel
theorem dX4_fewest_5 : decode cX4_fewest 5 = .ok (.iconst 0, 1) := by decide +kernel
theorem dX4_fewest_6 : decode cX4_fewest 6 = .ok (.istore 5, 2) := by decide +kernel
theorem dX4_fewest_8 : decode cX4_fewest 8 = .ok (.iload 5, 2) := by decide +kernel
theorem dX4_fewest_10 : decode cX4_fewest 10 = .ok (.aload_n 0, 1) := by decide +kernel
theorem dX4_fewest_11 : decode cX4_fewest 11 = .ok (.getfield 34, 3) := by decide +kernel
theorem dX4_fewest_14 : decode cX4_fewest 14 = .ok (.if_icmp .ge 63, 3) := by decide +kernel
theorem dX4_fewest_17 : decode cX4_fewest 17 = .ok (.aload_n 0, 1) := by decide +kernel
theorem dX4_fewest_18 : decode cX4_fewest 18 = .ok (.iload 5, 2) := by decide +kernel
theorem dX4_fewest_20 : decode cX4_fewest 20 = .ok (.iload_n 2, 1) := by decide +kernel
theorem dX4_fewest_21 : decode cX4_fewest 21 = .ok (.invokevirtual 38, 3) := by decide +kernel
theorem dX4_fewest_24 : decode cX4_fewest 24 = .ok (.istore 6, 2) := by decide +kernel
theorem dX4_fewest_26 : decode cX4_fewest 26 = .ok (.iload_n 1, 1) := by decide +kernel
theorem dX4_fewest_27 : decode cX4_fewest 27 = .ok (.iload 5, 2) := by decide +kernel
theorem dX4_fewest_29 : decode cX4_fewest 29 = .ok (.ishr, 1) := by decide +kernel
theorem dX4_fewest_30 : decode cX4_fewest 30 = .ok (.iconst 1, 1) := by decide +kernel
theorem dX4_fewest_31 : decode cX4_fewest 31 = .ok (.iand, 1) := by decide +kernel
theorem dX4_fewest_32 : decode cX4_fewest 32 = .ok (.ifCond .eq 39, 3) := by decide +kernel
theorem dX4_fewest_35 : decode cX4_fewest 35 = .ok (.iload 6, 2) := by decide +kernel
theorem dX4_fewest_37 : decode cX4_fewest 37 = .ok (.bipush 50, 2) := by decide +kernel
theorem dX4_fewest_39 : decode cX4_fewest 39 = .ok (.if_icmp .lt 6, 3) := by decide +kernel
theorem dX4_fewest_42 : decode cX4_fewest 42 = .ok (.goto 29, 3) := by decide +kernel
theorem dX4_fewest_45 : decode cX4_fewest 45 = .ok (.iload 6, 2) := by decide +kernel
theorem dX4_fewest_47 : decode cX4_fewest 47 = .ok (.bipush 25, 2) := by decide +kernel
theorem dX4_fewest_49 : decode cX4_fewest 49 = .ok (.if_icmp .lt 13, 3) := by decide +kernel
theorem dX4_fewest_52 : decode cX4_fewest 52 = .ok (.iload_n 3, 1) := by decide +kernel
theorem dX4_fewest_53 : decode cX4_fewest 53 = .ok (.iconst 1, 1) := by decide +kernel
theorem dX4_fewest_54 : decode cX4_fewest 54 = .ok (.iload 5, 2) := by decide +kernel
theorem dX4_fewest_56 : decode cX4_fewest 56 = .ok (.ishl, 1) := by decide +kernel
theorem dX4_fewest_57 : decode cX4_fewest 57 = .ok (.ior, 1) := by decide +kernel
theorem dX4_fewest_58 : decode cX4_fewest 58 = .ok (.istore_n 3, 1) := by decide +kernel
theorem dX4_fewest_59 : decode cX4_fewest 59 = .ok (.goto 12, 3) := by decide +kernel
theorem dX4_fewest_62 : decode cX4_fewest 62 = .ok (.iload 4, 2) := by decide +kernel
theorem dX4_fewest_64 : decode cX4_fewest 64 = .ok (.iconst 1, 1) := by decide +kernel
theorem dX4_fewest_65 : decode cX4_fewest 65 = .ok (.iload 5, 2) := by decide +kernel
theorem dX4_fewest_67 : decode cX4_fewest 67 = .ok (.ishl, 1) := by decide +kernel
theorem dX4_fewest_68 : decode cX4_fewest 68 = .ok (.ior, 1) := by decide +kernel
theorem dX4_fewest_69 : decode cX4_fewest 69 = .ok (.istore 4, 2) := by decide +kernel
theorem dX4_fewest_71 : decode cX4_fewest 71 = .ok (.iinc 5 1, 3) := by decide +kernel
theorem dX4_fewest_74 : decode cX4_fewest 74 = .ok (.goto (-66), 3) := by decide +kernel
theorem dX4_fewest_77 : decode cX4_fewest 77 = .ok (.iload_n 3, 1) := by decide +kernel
theorem dX4_fewest_78 : decode cX4_fewest 78 = .ok (.iload 4, 2) := by decide +kernel
theorem dX4_fewest_80 : decode cX4_fewest 80 = .ok (.ior, 1) := by decide +kernel
theorem dX4_fewest_81 : decode cX4_fewest 81 = .ok (.ifCond .ne 5, 3) := by decide +kernel
theorem dX4_fewest_84 : decode cX4_fewest 84 = .ok (.iconst 0, 1) := by decide +kernel
theorem dX4_fewest_85 : decode cX4_fewest 85 = .ok (.ireturn, 1) := by decide +kernel
theorem dX4_fewest_86 : decode cX4_fewest 86 = .ok (.aload_n 0, 1) := by decide +kernel
theorem dX4_fewest_87 : decode cX4_fewest 87 = .ok (.iload_n 3, 1) := by decide +kernel
theorem dX4_fewest_88 : decode cX4_fewest 88 = .ok (.iload 4, 2) := by decide +kernel
theorem dX4_fewest_90 : decode cX4_fewest 90 = .ok (.invokestatic 41, 3) := by decide +kernel
theorem dX4_fewest_93 : decode cX4_fewest 93 = .ok (.ireturn, 1) := by decide +kernel
set_option maxRecDepth 20000 in
theorem kb_39_0 : ∀ q ∈ tb_39_0, s_atx 39 yX4_fewest cX4_fewest q.1 q.2 := (List.forall_mem_cons.mpr ⟨⟨s_iconst dX4_fewest_0 (by decide +kernel), s_mo_push _ _⟩, (List.forall_mem_cons.mpr ⟨⟨s_stIn dX4_fewest_1 rfl, s_mo_stI _ _⟩, (List.forall_mem_cons.mpr ⟨⟨s_iconst dX4_fewest_2 (by decide +kernel), s_mo_push _ _⟩, (List.forall_mem_cons.mpr ⟨⟨s_stI dX4_fewest_3, s_mo_stI _ _⟩, (List.forall_mem_cons.mpr ⟨⟨s_iconst dX4_fewest_5 (by decide +kernel), s_mo_push _ _⟩, (List.forall_mem_cons.mpr ⟨⟨s_stI dX4_fewest_6, s_mo_stI _ _⟩, (List.forall_mem_cons.mpr ⟨⟨s_ldI dX4_fewest_8, s_mo_ldI _ _⟩, (List.forall_mem_cons.mpr ⟨⟨s_ldAn dX4_fewest_10 rfl, s_mo_ldA _ _⟩, (List.forall_mem_cons.mpr ⟨⟨s_getf (ci := 0) (k := 2) rfl (by decide) inX0 w_62 dX4_fewest_11, s_mo_getf _ _ _⟩, (List.forall_mem_cons.mpr ⟨⟨s_icge dX4_fewest_14 (by decide), s_mo_icge _ _⟩, (List.forall_mem_cons.mpr ⟨⟨s_ldAn dX4_fewest_17 rfl, s_mo_ldA _ _⟩, (List.forall_mem_cons.mpr ⟨⟨s_ldI dX4_fewest_18, s_mo_ldI _ _⟩, (List.forall_mem_cons.mpr ⟨⟨s_ldIn dX4_fewest_20 rfl, s_mo_ldI _ _⟩, (List.forall_mem_cons.mpr ⟨⟨s_sV mk_39 mk_15 ok_15 (by decide +kernel) dX4_fewest_21 w_1193 w_891 w_892 (Or.inr ⟨0, _, _, rfl, rfl⟩), s_h0 mk_39⟩, (List.forall_mem_cons.mpr ⟨⟨s_stI dX4_fewest_24, s_mo_stI _ _⟩, (List.forall_mem_cons.mpr ⟨⟨s_ldIn dX4_fewest_26 rfl, s_mo_ldI _ _⟩, (List.forall_mem_cons.mpr ⟨⟨s_ldI dX4_fewest_27, s_mo_ldI _ _⟩, (List.forall_mem_cons.mpr ⟨⟨s_ishr dX4_fewest_29, s_mo_bin _ _⟩, (List.forall_mem_cons.mpr ⟨⟨s_iconst dX4_fewest_30 (by decide +kernel), s_mo_push _ _⟩, (List.forall_mem_cons.mpr ⟨⟨s_iand dX4_fewest_31, s_mo_bin _ _⟩, (List.forall_mem_cons.mpr ⟨⟨s_ifeq dX4_fewest_32 (by decide), s_mo_ifeq _ _⟩, (List.forall_mem_cons.mpr ⟨⟨s_ldI dX4_fewest_35, s_mo_ldI _ _⟩, (List.forall_mem_cons.mpr ⟨⟨s_bipush dX4_fewest_37 (by decide +kernel), s_mo_push _ _⟩, (List.forall_mem_cons.mpr ⟨⟨s_iclt dX4_fewest_39 (by decide), s_mo_iclt _ _⟩, (List.forall_mem_cons.mpr ⟨⟨s_goto dX4_fewest_42 (by decide), s_mo_goto _⟩, (List.forall_mem_cons.mpr ⟨⟨s_ldI dX4_fewest_45, s_mo_ldI _ _⟩, (List.forall_mem_cons.mpr ⟨⟨s_bipush dX4_fewest_47 (by decide +kernel), s_mo_push _ _⟩, (List.forall_mem_cons.mpr ⟨⟨s_iclt dX4_fewest_49 (by decide), s_mo_iclt _ _⟩, (List.forall_mem_cons.mpr ⟨⟨s_ldIn dX4_fewest_52 rfl, s_mo_ldI _ _⟩, (List.forall_mem_cons.mpr ⟨⟨s_iconst dX4_fewest_53 (by decide +kernel), s_mo_push _ _⟩, (List.forall_mem_cons.mpr ⟨⟨s_ldI dX4_fewest_54, s_mo_ldI _ _⟩, (List.forall_mem_cons.mpr ⟨⟨s_ishl dX4_fewest_56, s_mo_bin _ _⟩, (List.forall_mem_cons.mpr ⟨⟨s_ior dX4_fewest_57, s_mo_bin _ _⟩, (List.forall_mem_cons.mpr ⟨⟨s_stIn dX4_fewest_58 rfl, s_mo_stI _ _⟩, (List.forall_mem_cons.mpr ⟨⟨s_goto dX4_fewest_59 (by decide), s_mo_goto _⟩, (List.forall_mem_cons.mpr ⟨⟨s_ldI dX4_fewest_62, s_mo_ldI _ _⟩, (fun _ h => absurd h List.not_mem_nil)⟩)⟩)⟩)⟩)⟩)⟩)⟩)⟩)⟩)⟩)⟩)⟩)⟩)⟩)⟩)⟩)⟩)⟩)⟩)⟩)⟩)⟩)⟩)⟩)⟩)⟩)⟩)⟩)⟩)⟩)⟩)⟩)⟩)⟩)⟩)⟩)
set_option maxRecDepth 20000 in
theorem kb_39_1 : ∀ q ∈ tb_39_1, s_atx 39 yX4_fewest cX4_fewest q.1 q.2 := (List.forall_mem_cons.mpr ⟨⟨s_iconst dX4_fewest_64 (by decide +kernel), s_mo_push _ _⟩, (List.forall_mem_cons.mpr ⟨⟨s_ldI dX4_fewest_65, s_mo_ldI _ _⟩, (List.forall_mem_cons.mpr ⟨⟨s_ishl dX4_fewest_67, s_mo_bin _ _⟩, (List.forall_mem_cons.mpr ⟨⟨s_ior dX4_fewest_68, s_mo_bin _ _⟩, (List.forall_mem_cons.mpr ⟨⟨s_stI dX4_fewest_69, s_mo_stI _ _⟩, (List.forall_mem_cons.mpr ⟨⟨s_inc dX4_fewest_71 (by decide +kernel), s_mo_inc _ _ _⟩, (List.forall_mem_cons.mpr ⟨⟨s_goto dX4_fewest_74 (by decide), s_mo_goto _⟩, (List.forall_mem_cons.mpr ⟨⟨s_ldIn dX4_fewest_77 rfl, s_mo_ldI _ _⟩, (List.forall_mem_cons.mpr ⟨⟨s_ldI dX4_fewest_78, s_mo_ldI _ _⟩, (List.forall_mem_cons.mpr ⟨⟨s_ior dX4_fewest_80, s_mo_bin _ _⟩, (List.forall_mem_cons.mpr ⟨⟨s_ifne dX4_fewest_81 (by decide), s_mo_ifne _ _⟩, (List.forall_mem_cons.mpr ⟨⟨s_iconst dX4_fewest_84 (by decide +kernel), s_mo_push _ _⟩, (List.forall_mem_cons.mpr ⟨s_r1 mk_39 dX4_fewest_85, (List.forall_mem_cons.mpr ⟨⟨s_ldAn dX4_fewest_86 rfl, s_mo_ldA _ _⟩, (List.forall_mem_cons.mpr ⟨⟨s_ldIn dX4_fewest_87 rfl, s_mo_ldI _ _⟩, (List.forall_mem_cons.mpr ⟨⟨s_ldI dX4_fewest_88, s_mo_ldI _ _⟩, (List.forall_mem_cons.mpr ⟨⟨s_sS mk_39 mk_40 ok_40 (by decide +kernel) dX4_fewest_90 w_1194 w_1195, s_h0 mk_39⟩, (List.forall_mem_cons.mpr ⟨s_r1 mk_39 dX4_fewest_93, (fun _ h => absurd h List.not_mem_nil)⟩)⟩)⟩)⟩)⟩)⟩)⟩)⟩)⟩)⟩)⟩)⟩)⟩)⟩)⟩)⟩)⟩)⟩)
theorem km_39 : ∀ t ∈ tm_39, s_tok 39 t := (List.forall_mem_cons.mpr ⟨s_lift mk_39 kb_39_0, (List.forall_mem_cons.mpr ⟨s_lift mk_39 kb_39_1, (fun _ h => absurd h List.not_mem_nil)⟩)⟩)
theorem dX4_fewestFor_0 : decode cX4_fewestFor 0 = .ok (.iconst 0, 1) := by decide +kernel
theorem dX4_fewestFor_1 : decode cX4_fewestFor 1 = .ok (.istore_n 3, 1) := by decide +kernel
theorem dX4_fewestFor_2 : decode cX4_fewestFor 2 = .ok (.iload_n 3, 1) := by decide +kernel
theorem dX4_fewestFor_3 : decode cX4_fewestFor 3 = .ok (.aload_n 0, 1) := by decide +kernel
theorem dX4_fewestFor_4 : decode cX4_fewestFor 4 = .ok (.getfield 34, 3) := by decide +kernel
theorem dX4_fewestFor_7 : decode cX4_fewestFor 7 = .ok (.if_icmp .ge 36, 3) := by decide +kernel
theorem dX4_fewestFor_10 : decode cX4_fewestFor 10 = .ok (.aload_n 0, 1) := by decide +kernel
theorem dX4_fewestFor_11 : decode cX4_fewestFor 11 = .ok (.iconst 1, 1) := by decide +kernel
theorem dX4_fewestFor_12 : decode cX4_fewestFor 12 = .ok (.iload_n 3, 1) := by decide +kernel
theorem dX4_fewestFor_13 : decode cX4_fewestFor 13 = .ok (.ishl, 1) := by decide +kernel
theorem dX4_fewestFor_14 : decode cX4_fewestFor 14 = .ok (.invokevirtual 9, 3) := by decide +kernel
theorem dX4_fewestFor_17 : decode cX4_fewestFor 17 = .ok (.istore 4, 2) := by decide +kernel
theorem dX4_fewestFor_19 : decode cX4_fewestFor 19 = .ok (.iconst 1, 1) := by decide +kernel
theorem dX4_fewestFor_20 : decode cX4_fewestFor 20 = .ok (.iload_n 3, 1) := by decide +kernel
theorem dX4_fewestFor_21 : decode cX4_fewestFor 21 = .ok (.ishl, 1) := by decide +kernel
theorem dX4_fewestFor_22 : decode cX4_fewestFor 22 = .ok (.iload 4, 2) := by decide +kernel
theorem dX4_fewestFor_24 : decode cX4_fewestFor 24 = .ok (.iconst 0, 1) := by decide +kernel
theorem dX4_fewestFor_25 : decode cX4_fewestFor 25 = .ok (.iload_n 1, 1) := by decide +kernel
theorem dX4_fewestFor_26 : decode cX4_fewestFor 26 = .ok (.iload_n 2, 1) := by decide +kernel
theorem dX4_fewestFor_27 : decode cX4_fewestFor 27 = .ok (.invokestatic 44, 3) := by decide +kernel
theorem dX4_fewestFor_30 : decode cX4_fewestFor 30 = .ok (.ifCond .eq 7, 3) := by decide +kernel
theorem dX4_fewestFor_33 : decode cX4_fewestFor 33 = .ok (.iconst 1, 1) := by decide +kernel
theorem dX4_fewestFor_34 : decode cX4_fewestFor 34 = .ok (.iload_n 3, 1) := by decide +kernel
theorem dX4_fewestFor_35 : decode cX4_fewestFor 35 = .ok (.ishl, 1) := by decide +kernel
theorem dX4_fewestFor_36 : decode cX4_fewestFor 36 = .ok (.ireturn, 1) := by decide +kernel
theorem dX4_fewestFor_37 : decode cX4_fewestFor 37 = .ok (.iinc 3 1, 3) := by decide +kernel
theorem dX4_fewestFor_40 : decode cX4_fewestFor 40 = .ok (.goto (-38), 3) := by decide +kernel
theorem dX4_fewestFor_43 : decode cX4_fewestFor 43 = .ok (.iconst 1, 1) := by decide +kernel
theorem dX4_fewestFor_44 : decode cX4_fewestFor 44 = .ok (.istore_n 3, 1) := by decide +kernel
theorem dX4_fewestFor_45 : decode cX4_fewestFor 45 = .ok (.iload_n 3, 1) := by decide +kernel
theorem dX4_fewestFor_46 : decode cX4_fewestFor 46 = .ok (.aload_n 0, 1) := by decide +kernel
theorem dX4_fewestFor_47 : decode cX4_fewestFor 47 = .ok (.getfield 34, 3) := by decide +kernel
theorem dX4_fewestFor_50 : decode cX4_fewestFor 50 = .ok (.if_icmp .ge 78, 3) := by decide +kernel
theorem dX4_fewestFor_53 : decode cX4_fewestFor 53 = .ok (.iconst 0, 1) := by decide +kernel
theorem dX4_fewestFor_54 : decode cX4_fewestFor 54 = .ok (.istore 4, 2) := by decide +kernel
theorem dX4_fewestFor_56 : decode cX4_fewestFor 56 = .ok (.iload 4, 2) := by decide +kernel
theorem dX4_fewestFor_58 : decode cX4_fewestFor 58 = .ok (.iload_n 3, 1) := by decide +kernel
theorem dX4_fewestFor_59 : decode cX4_fewestFor 59 = .ok (.if_icmp .ge 63, 3) := by decide +kernel
theorem dX4_fewestFor_62 : decode cX4_fewestFor 62 = .ok (.aload_n 0, 1) := by decide +kernel
theorem dX4_fewestFor_63 : decode cX4_fewestFor 63 = .ok (.iconst 1, 1) := by decide +kernel
theorem dX4_fewestFor_64 : decode cX4_fewestFor 64 = .ok (.iload_n 3, 1) := by decide +kernel
theorem dX4_fewestFor_65 : decode cX4_fewestFor 65 = .ok (.ishl, 1) := by decide +kernel
theorem dX4_fewestFor_66 : decode cX4_fewestFor 66 = .ok (.invokevirtual 9, 3) := by decide +kernel
theorem dX4_fewestFor_69 : decode cX4_fewestFor 69 = .ok (.istore 5, 2) := by decide +kernel
theorem dX4_fewestFor_71 : decode cX4_fewestFor 71 = .ok (.aload_n 0, 1) := by decide +kernel
theorem dX4_fewestFor_72 : decode cX4_fewestFor 72 = .ok (.iconst 1, 1) := by decide +kernel
theorem dX4_fewestFor_73 : decode cX4_fewestFor 73 = .ok (.iload 4, 2) := by decide +kernel
theorem dX4_fewestFor_75 : decode cX4_fewestFor 75 = .ok (.ishl, 1) := by decide +kernel
theorem dX4_fewestFor_76 : decode cX4_fewestFor 76 = .ok (.invokevirtual 9, 3) := by decide +kernel
theorem dX4_fewestFor_79 : decode cX4_fewestFor 79 = .ok (.istore 6, 2) := by decide +kernel
theorem dX4_fewestFor_81 : decode cX4_fewestFor 81 = .ok (.iconst 1, 1) := by decide +kernel
theorem dX4_fewestFor_82 : decode cX4_fewestFor 82 = .ok (.iload_n 3, 1) := by decide +kernel
theorem dX4_fewestFor_83 : decode cX4_fewestFor 83 = .ok (.ishl, 1) := by decide +kernel
theorem dX4_fewestFor_84 : decode cX4_fewestFor 84 = .ok (.iconst 1, 1) := by decide +kernel
theorem dX4_fewestFor_85 : decode cX4_fewestFor 85 = .ok (.iload 4, 2) := by decide +kernel
theorem dX4_fewestFor_87 : decode cX4_fewestFor 87 = .ok (.ishl, 1) := by decide +kernel
theorem dX4_fewestFor_88 : decode cX4_fewestFor 88 = .ok (.ior, 1) := by decide +kernel
theorem dX4_fewestFor_89 : decode cX4_fewestFor 89 = .ok (.iload 5, 2) := by decide +kernel
theorem dX4_fewestFor_91 : decode cX4_fewestFor 91 = .ok (.iload 6, 2) := by decide +kernel
theorem dX4_fewestFor_93 : decode cX4_fewestFor 93 = .ok (.ior, 1) := by decide +kernel
theorem dX4_fewestFor_94 : decode cX4_fewestFor 94 = .ok (.iload 5, 2) := by decide +kernel
theorem dX4_fewestFor_96 : decode cX4_fewestFor 96 = .ok (.iload 6, 2) := by decide +kernel
theorem dX4_fewestFor_98 : decode cX4_fewestFor 98 = .ok (.iand, 1) := by decide +kernel
theorem dX4_fewestFor_99 : decode cX4_fewestFor 99 = .ok (.iload_n 1, 1) := by decide +kernel
theorem dX4_fewestFor_100 : decode cX4_fewestFor 100 = .ok (.iload_n 2, 1) := by decide +kernel
theorem dX4_fewestFor_101 : decode cX4_fewestFor 101 = .ok (.invokestatic 44, 3) := by decide +kernel
theorem dX4_fewestFor_104 : decode cX4_fewestFor 104 = .ok (.ifCond .eq 12, 3) := by decide +kernel
theorem dX4_fewestFor_107 : decode cX4_fewestFor 107 = .ok (.iconst 1, 1) := by decide +kernel
theorem dX4_fewestFor_108 : decode cX4_fewestFor 108 = .ok (.iload_n 3, 1) := by decide +kernel
theorem dX4_fewestFor_109 : decode cX4_fewestFor 109 = .ok (.ishl, 1) := by decide +kernel
theorem dX4_fewestFor_110 : decode cX4_fewestFor 110 = .ok (.iconst 1, 1) := by decide +kernel
theorem dX4_fewestFor_111 : decode cX4_fewestFor 111 = .ok (.iload 4, 2) := by decide +kernel
theorem dX4_fewestFor_113 : decode cX4_fewestFor 113 = .ok (.ishl, 1) := by decide +kernel
theorem dX4_fewestFor_114 : decode cX4_fewestFor 114 = .ok (.ior, 1) := by decide +kernel
theorem dX4_fewestFor_115 : decode cX4_fewestFor 115 = .ok (.ireturn, 1) := by decide +kernel
theorem dX4_fewestFor_116 : decode cX4_fewestFor 116 = .ok (.iinc 4 1, 3) := by decide +kernel
theorem dX4_fewestFor_119 : decode cX4_fewestFor 119 = .ok (.goto (-63), 3) := by decide +kernel
theorem dX4_fewestFor_122 : decode cX4_fewestFor 122 = .ok (.iinc 3 1, 3) := by decide +kernel
theorem dX4_fewestFor_125 : decode cX4_fewestFor 125 = .ok (.goto (-80), 3) := by decide +kernel
theorem dX4_fewestFor_128 : decode cX4_fewestFor 128 = .ok (.iconst 2, 1) := by decide +kernel
theorem dX4_fewestFor_129 : decode cX4_fewestFor 129 = .ok (.istore_n 3, 1) := by decide +kernel
theorem dX4_fewestFor_130 : decode cX4_fewestFor 130 = .ok (.iload_n 3, 1) := by decide +kernel
theorem dX4_fewestFor_131 : decode cX4_fewestFor 131 = .ok (.aload_n 0, 1) := by decide +kernel
theorem dX4_fewestFor_132 : decode cX4_fewestFor 132 = .ok (.getfield 34, 3) := by decide +kernel
theorem dX4_fewestFor_135 : decode cX4_fewestFor 135 = .ok (.if_icmp .ge 27, 3) := by decide +kernel
theorem dX4_fewestFor_138 : decode cX4_fewestFor 138 = .ok (.aload_n 0, 1) := by decide +kernel
theorem dX4_fewestFor_139 : decode cX4_fewestFor 139 = .ok (.iload_n 3, 1) := by decide +kernel
theorem dX4_fewestFor_140 : decode cX4_fewestFor 140 = .ok (.iload_n 1, 1) := by decide +kernel
theorem dX4_fewestFor_141 : decode cX4_fewestFor 141 = .ok (.iload_n 2, 1) := by decide +kernel
theorem dX4_fewestFor_142 : decode cX4_fewestFor 142 = .ok (.invokestatic 48, 3) := by decide +kernel
theorem dX4_fewestFor_145 : decode cX4_fewestFor 145 = .ok (.istore 4, 2) := by decide +kernel
theorem dX4_fewestFor_147 : decode cX4_fewestFor 147 = .ok (.iload 4, 2) := by decide +kernel
theorem dX4_fewestFor_149 : decode cX4_fewestFor 149 = .ok (.iconst (-1), 1) := by decide +kernel
theorem dX4_fewestFor_150 : decode cX4_fewestFor 150 = .ok (.if_icmp .eq 6, 3) := by decide +kernel
theorem dX4_fewestFor_153 : decode cX4_fewestFor 153 = .ok (.iload 4, 2) := by decide +kernel
theorem dX4_fewestFor_155 : decode cX4_fewestFor 155 = .ok (.ireturn, 1) := by decide +kernel
theorem dX4_fewestFor_156 : decode cX4_fewestFor 156 = .ok (.iinc 3 1, 3) := by decide +kernel
theorem dX4_fewestFor_159 : decode cX4_fewestFor 159 = .ok (.goto (-29), 3) := by decide +kernel
theorem dX4_fewestFor_162 : decode cX4_fewestFor 162 = .ok (.iconst (-1), 1) := by decide +kernel
theorem dX4_fewestFor_163 : decode cX4_fewestFor 163 = .ok (.ireturn, 1) := by decide +kernel
set_option maxRecDepth 20000 in
theorem kb_40_0 : ∀ q ∈ tb_40_0, s_atx 40 yX4_fewestFor cX4_fewestFor q.1 q.2 := (List.forall_mem_cons.mpr ⟨⟨s_iconst dX4_fewestFor_0 (by decide +kernel), s_mo_push _ _⟩, (List.forall_mem_cons.mpr ⟨⟨s_stIn dX4_fewestFor_1 rfl, s_mo_stI _ _⟩, (List.forall_mem_cons.mpr ⟨⟨s_ldIn dX4_fewestFor_2 rfl, s_mo_ldI _ _⟩, (List.forall_mem_cons.mpr ⟨⟨s_ldAn dX4_fewestFor_3 rfl, s_mo_ldA _ _⟩, (List.forall_mem_cons.mpr ⟨⟨s_getf (ci := 0) (k := 2) rfl (by decide) inX0 w_62 dX4_fewestFor_4, s_mo_getf _ _ _⟩, (List.forall_mem_cons.mpr ⟨⟨s_icge dX4_fewestFor_7 (by decide), s_mo_icge _ _⟩, (List.forall_mem_cons.mpr ⟨⟨s_ldAn dX4_fewestFor_10 rfl, s_mo_ldA _ _⟩, (List.forall_mem_cons.mpr ⟨⟨s_iconst dX4_fewestFor_11 (by decide +kernel), s_mo_push _ _⟩, (List.forall_mem_cons.mpr ⟨⟨s_ldIn dX4_fewestFor_12 rfl, s_mo_ldI _ _⟩, (List.forall_mem_cons.mpr ⟨⟨s_ishl dX4_fewestFor_13, s_mo_bin _ _⟩, (List.forall_mem_cons.mpr ⟨⟨s_sV mk_40 mk_4 ok_4 (by decide +kernel) dX4_fewestFor_14 w_1028 w_407 w_408 (Or.inr ⟨0, _, _, rfl, rfl⟩), s_h0 mk_40⟩, (List.forall_mem_cons.mpr ⟨⟨s_stI dX4_fewestFor_17, s_mo_stI _ _⟩, (List.forall_mem_cons.mpr ⟨⟨s_iconst dX4_fewestFor_19 (by decide +kernel), s_mo_push _ _⟩, (List.forall_mem_cons.mpr ⟨⟨s_ldIn dX4_fewestFor_20 rfl, s_mo_ldI _ _⟩, (List.forall_mem_cons.mpr ⟨⟨s_ishl dX4_fewestFor_21, s_mo_bin _ _⟩, (List.forall_mem_cons.mpr ⟨⟨s_ldI dX4_fewestFor_22, s_mo_ldI _ _⟩, (List.forall_mem_cons.mpr ⟨⟨s_iconst dX4_fewestFor_24 (by decide +kernel), s_mo_push _ _⟩, (List.forall_mem_cons.mpr ⟨⟨s_ldIn dX4_fewestFor_25 rfl, s_mo_ldI _ _⟩, (List.forall_mem_cons.mpr ⟨⟨s_ldIn dX4_fewestFor_26 rfl, s_mo_ldI _ _⟩, (List.forall_mem_cons.mpr ⟨⟨s_sS mk_40 mk_42 ok_42 (by decide +kernel) dX4_fewestFor_27 w_1197 w_1198, s_h0 mk_40⟩, (List.forall_mem_cons.mpr ⟨⟨s_ifeq dX4_fewestFor_30 (by decide), s_mo_ifeq _ _⟩, (List.forall_mem_cons.mpr ⟨⟨s_iconst dX4_fewestFor_33 (by decide +kernel), s_mo_push _ _⟩, (List.forall_mem_cons.mpr ⟨⟨s_ldIn dX4_fewestFor_34 rfl, s_mo_ldI _ _⟩, (List.forall_mem_cons.mpr ⟨⟨s_ishl dX4_fewestFor_35, s_mo_bin _ _⟩, (List.forall_mem_cons.mpr ⟨s_r1 mk_40 dX4_fewestFor_36, (List.forall_mem_cons.mpr ⟨⟨s_inc dX4_fewestFor_37 (by decide +kernel), s_mo_inc _ _ _⟩, (List.forall_mem_cons.mpr ⟨⟨s_goto dX4_fewestFor_40 (by decide), s_mo_goto _⟩, (List.forall_mem_cons.mpr ⟨⟨s_iconst dX4_fewestFor_43 (by decide +kernel), s_mo_push _ _⟩, (List.forall_mem_cons.mpr ⟨⟨s_stIn dX4_fewestFor_44 rfl, s_mo_stI _ _⟩, (List.forall_mem_cons.mpr ⟨⟨s_ldIn dX4_fewestFor_45 rfl, s_mo_ldI _ _⟩, (List.forall_mem_cons.mpr ⟨⟨s_ldAn dX4_fewestFor_46 rfl, s_mo_ldA _ _⟩, (List.forall_mem_cons.mpr ⟨⟨s_getf (ci := 0) (k := 2) rfl (by decide) inX0 w_62 dX4_fewestFor_47, s_mo_getf _ _ _⟩, (List.forall_mem_cons.mpr ⟨⟨s_icge dX4_fewestFor_50 (by decide), s_mo_icge _ _⟩, (List.forall_mem_cons.mpr ⟨⟨s_iconst dX4_fewestFor_53 (by decide +kernel), s_mo_push _ _⟩, (List.forall_mem_cons.mpr ⟨⟨s_stI dX4_fewestFor_54, s_mo_stI _ _⟩, (List.forall_mem_cons.mpr ⟨⟨s_ldI dX4_fewestFor_56, s_mo_ldI _ _⟩, (List.forall_mem_cons.mpr ⟨⟨s_ldIn dX4_fewestFor_58 rfl, s_mo_ldI _ _⟩, (List.forall_mem_cons.mpr ⟨⟨s_icge dX4_fewestFor_59 (by decide), s_mo_icge _ _⟩, (List.forall_mem_cons.mpr ⟨⟨s_ldAn dX4_fewestFor_62 rfl, s_mo_ldA _ _⟩, (List.forall_mem_cons.mpr ⟨⟨s_iconst dX4_fewestFor_63 (by decide +kernel), s_mo_push _ _⟩, (fun _ h => absurd h List.not_mem_nil)⟩)⟩)⟩)⟩)⟩)⟩)⟩)⟩)⟩)⟩)⟩)⟩)⟩)⟩)⟩)⟩)⟩)⟩)⟩)⟩)⟩)⟩)⟩)⟩)⟩)⟩)⟩)⟩)⟩)⟩)⟩)⟩)⟩)⟩)⟩)⟩)⟩)⟩)⟩)⟩)
set_option maxRecDepth 20000 in
theorem kb_40_1 : ∀ q ∈ tb_40_1, s_atx 40 yX4_fewestFor cX4_fewestFor q.1 q.2 := (List.forall_mem_cons.mpr ⟨⟨s_ldIn dX4_fewestFor_64 rfl, s_mo_ldI _ _⟩, (List.forall_mem_cons.mpr ⟨⟨s_ishl dX4_fewestFor_65, s_mo_bin _ _⟩, (List.forall_mem_cons.mpr ⟨⟨s_sV mk_40 mk_4 ok_4 (by decide +kernel) dX4_fewestFor_66 w_1028 w_407 w_408 (Or.inr ⟨0, _, _, rfl, rfl⟩), s_h0 mk_40⟩, (List.forall_mem_cons.mpr ⟨⟨s_stI dX4_fewestFor_69, s_mo_stI _ _⟩, (List.forall_mem_cons.mpr ⟨⟨s_ldAn dX4_fewestFor_71 rfl, s_mo_ldA _ _⟩, (List.forall_mem_cons.mpr ⟨⟨s_iconst dX4_fewestFor_72 (by decide +kernel), s_mo_push _ _⟩, (List.forall_mem_cons.mpr ⟨⟨s_ldI dX4_fewestFor_73, s_mo_ldI _ _⟩, (List.forall_mem_cons.mpr ⟨⟨s_ishl dX4_fewestFor_75, s_mo_bin _ _⟩, (List.forall_mem_cons.mpr ⟨⟨s_sV mk_40 mk_4 ok_4 (by decide +kernel) dX4_fewestFor_76 w_1028 w_407 w_408 (Or.inr ⟨0, _, _, rfl, rfl⟩), s_h0 mk_40⟩, (List.forall_mem_cons.mpr ⟨⟨s_stI dX4_fewestFor_79, s_mo_stI _ _⟩, (List.forall_mem_cons.mpr ⟨⟨s_iconst dX4_fewestFor_81 (by decide +kernel), s_mo_push _ _⟩, (List.forall_mem_cons.mpr ⟨⟨s_ldIn dX4_fewestFor_82 rfl, s_mo_ldI _ _⟩, (List.forall_mem_cons.mpr ⟨⟨s_ishl dX4_fewestFor_83, s_mo_bin _ _⟩, (List.forall_mem_cons.mpr ⟨⟨s_iconst dX4_fewestFor_84 (by decide +kernel), s_mo_push _ _⟩, (List.forall_mem_cons.mpr ⟨⟨s_ldI dX4_fewestFor_85, s_mo_ldI _ _⟩, (List.forall_mem_cons.mpr ⟨⟨s_ishl dX4_fewestFor_87, s_mo_bin _ _⟩, (List.forall_mem_cons.mpr ⟨⟨s_ior dX4_fewestFor_88, s_mo_bin _ _⟩, (List.forall_mem_cons.mpr ⟨⟨s_ldI dX4_fewestFor_89, s_mo_ldI _ _⟩, (List.forall_mem_cons.mpr ⟨⟨s_ldI dX4_fewestFor_91, s_mo_ldI _ _⟩, (List.forall_mem_cons.mpr ⟨⟨s_ior dX4_fewestFor_93, s_mo_bin _ _⟩, (List.forall_mem_cons.mpr ⟨⟨s_ldI dX4_fewestFor_94, s_mo_ldI _ _⟩, (List.forall_mem_cons.mpr ⟨⟨s_ldI dX4_fewestFor_96, s_mo_ldI _ _⟩, (List.forall_mem_cons.mpr ⟨⟨s_iand dX4_fewestFor_98, s_mo_bin _ _⟩, (List.forall_mem_cons.mpr ⟨⟨s_ldIn dX4_fewestFor_99 rfl, s_mo_ldI _ _⟩, (List.forall_mem_cons.mpr ⟨⟨s_ldIn dX4_fewestFor_100 rfl, s_mo_ldI _ _⟩, (List.forall_mem_cons.mpr ⟨⟨s_sS mk_40 mk_42 ok_42 (by decide +kernel) dX4_fewestFor_101 w_1197 w_1198, s_h0 mk_40⟩, (List.forall_mem_cons.mpr ⟨⟨s_ifeq dX4_fewestFor_104 (by decide), s_mo_ifeq _ _⟩, (List.forall_mem_cons.mpr ⟨⟨s_iconst dX4_fewestFor_107 (by decide +kernel), s_mo_push _ _⟩, (List.forall_mem_cons.mpr ⟨⟨s_ldIn dX4_fewestFor_108 rfl, s_mo_ldI _ _⟩, (List.forall_mem_cons.mpr ⟨⟨s_ishl dX4_fewestFor_109, s_mo_bin _ _⟩, (List.forall_mem_cons.mpr ⟨⟨s_iconst dX4_fewestFor_110 (by decide +kernel), s_mo_push _ _⟩, (List.forall_mem_cons.mpr ⟨⟨s_ldI dX4_fewestFor_111, s_mo_ldI _ _⟩, (List.forall_mem_cons.mpr ⟨⟨s_ishl dX4_fewestFor_113, s_mo_bin _ _⟩, (List.forall_mem_cons.mpr ⟨⟨s_ior dX4_fewestFor_114, s_mo_bin _ _⟩, (List.forall_mem_cons.mpr ⟨s_r1 mk_40 dX4_fewestFor_115, (List.forall_mem_cons.mpr ⟨⟨s_inc dX4_fewestFor_116 (by decide +kernel), s_mo_inc _ _ _⟩, (List.forall_mem_cons.mpr ⟨⟨s_goto dX4_fewestFor_119 (by decide), s_mo_goto _⟩, (List.forall_mem_cons.mpr ⟨⟨s_inc dX4_fewestFor_122 (by decide +kernel), s_mo_inc _ _ _⟩, (List.forall_mem_cons.mpr ⟨⟨s_goto dX4_fewestFor_125 (by decide), s_mo_goto _⟩, (fun _ h => absurd h List.not_mem_nil)⟩)⟩)⟩)⟩)⟩)⟩)⟩)⟩)⟩)⟩)⟩)⟩)⟩)⟩)⟩)⟩)⟩)⟩)⟩)⟩)⟩)⟩)⟩)⟩)⟩)⟩)⟩)⟩)⟩)⟩)⟩)⟩)⟩)⟩)⟩)⟩)⟩)⟩)⟩)
set_option maxRecDepth 20000 in
theorem kb_40_2 : ∀ q ∈ tb_40_2, s_atx 40 yX4_fewestFor cX4_fewestFor q.1 q.2 := (List.forall_mem_cons.mpr ⟨⟨s_iconst dX4_fewestFor_128 (by decide +kernel), s_mo_push _ _⟩, (List.forall_mem_cons.mpr ⟨⟨s_stIn dX4_fewestFor_129 rfl, s_mo_stI _ _⟩, (List.forall_mem_cons.mpr ⟨⟨s_ldIn dX4_fewestFor_130 rfl, s_mo_ldI _ _⟩, (List.forall_mem_cons.mpr ⟨⟨s_ldAn dX4_fewestFor_131 rfl, s_mo_ldA _ _⟩, (List.forall_mem_cons.mpr ⟨⟨s_getf (ci := 0) (k := 2) rfl (by decide) inX0 w_62 dX4_fewestFor_132, s_mo_getf _ _ _⟩, (List.forall_mem_cons.mpr ⟨⟨s_icge dX4_fewestFor_135 (by decide), s_mo_icge _ _⟩, (List.forall_mem_cons.mpr ⟨⟨s_ldAn dX4_fewestFor_138 rfl, s_mo_ldA _ _⟩, (List.forall_mem_cons.mpr ⟨⟨s_ldIn dX4_fewestFor_139 rfl, s_mo_ldI _ _⟩, (List.forall_mem_cons.mpr ⟨⟨s_ldIn dX4_fewestFor_140 rfl, s_mo_ldI _ _⟩, (List.forall_mem_cons.mpr ⟨⟨s_ldIn dX4_fewestFor_141 rfl, s_mo_ldI _ _⟩, (List.forall_mem_cons.mpr ⟨⟨s_sS mk_40 mk_41 ok_41 (by decide +kernel) dX4_fewestFor_142 w_1200 w_1201, s_h0 mk_40⟩, (List.forall_mem_cons.mpr ⟨⟨s_stI dX4_fewestFor_145, s_mo_stI _ _⟩, (List.forall_mem_cons.mpr ⟨⟨s_ldI dX4_fewestFor_147, s_mo_ldI _ _⟩, (List.forall_mem_cons.mpr ⟨⟨s_iconst dX4_fewestFor_149 (by decide +kernel), s_mo_push _ _⟩, (List.forall_mem_cons.mpr ⟨⟨s_iceq dX4_fewestFor_150 (by decide), s_mo_iceq _ _⟩, (List.forall_mem_cons.mpr ⟨⟨s_ldI dX4_fewestFor_153, s_mo_ldI _ _⟩, (List.forall_mem_cons.mpr ⟨s_r1 mk_40 dX4_fewestFor_155, (List.forall_mem_cons.mpr ⟨⟨s_inc dX4_fewestFor_156 (by decide +kernel), s_mo_inc _ _ _⟩, (List.forall_mem_cons.mpr ⟨⟨s_goto dX4_fewestFor_159 (by decide), s_mo_goto _⟩, (List.forall_mem_cons.mpr ⟨⟨s_iconst dX4_fewestFor_162 (by decide +kernel), s_mo_push _ _⟩, (List.forall_mem_cons.mpr ⟨s_r1 mk_40 dX4_fewestFor_163, (fun _ h => absurd h List.not_mem_nil)⟩)⟩)⟩)⟩)⟩)⟩)⟩)⟩)⟩)⟩)⟩)⟩)⟩)⟩)⟩)⟩)⟩)⟩)⟩)⟩)⟩)
theorem km_40 : ∀ t ∈ tm_40, s_tok 40 t := (List.forall_mem_cons.mpr ⟨s_lift mk_40 kb_40_0, (List.forall_mem_cons.mpr ⟨s_lift mk_40 kb_40_1, (List.forall_mem_cons.mpr ⟨s_lift mk_40 kb_40_2, (fun _ h => absurd h List.not_mem_nil)⟩)⟩)⟩)
theorem dX4_threeUpTo_0 : decode cX4_threeUpTo 0 = .ok (.aload_n 0, 1) := by decide +kernel
theorem dX4_threeUpTo_1 : decode cX4_threeUpTo 1 = .ok (.iconst 1, 1) := by decide +kernel
theorem dX4_threeUpTo_2 : decode cX4_threeUpTo 2 = .ok (.iload_n 1, 1) := by decide +kernel
theorem dX4_threeUpTo_3 : decode cX4_threeUpTo 3 = .ok (.ishl, 1) := by decide +kernel
theorem dX4_threeUpTo_4 : decode cX4_threeUpTo 4 = .ok (.invokevirtual 9, 3) := by decide +kernel
theorem dX4_threeUpTo_7 : decode cX4_threeUpTo 7 = .ok (.istore 4, 2) := by decide +kernel
theorem dX4_threeUpTo_9 : decode cX4_threeUpTo 9 = .ok (.iconst 1, 1) := by decide +kernel
theorem dX4_threeUpTo_10 : decode cX4_threeUpTo 10 = .ok (.istore 5, 2) := by decide +kernel
theorem dX4_threeUpTo_12 : decode cX4_threeUpTo 12 = .ok (.iload 5, 2) := by decide +kernel
theorem dX4_threeUpTo_14 : decode cX4_threeUpTo 14 = .ok (.iload_n 1, 1) := by decide +kernel
theorem dX4_threeUpTo_15 : decode cX4_threeUpTo 15 = .ok (.if_icmp .ge 98, 3) := by decide +kernel
theorem dX4_threeUpTo_18 : decode cX4_threeUpTo 18 = .ok (.aload_n 0, 1) := by decide +kernel
theorem dX4_threeUpTo_19 : decode cX4_threeUpTo 19 = .ok (.iconst 1, 1) := by decide +kernel
theorem dX4_threeUpTo_20 : decode cX4_threeUpTo 20 = .ok (.iload 5, 2) := by decide +kernel
theorem dX4_threeUpTo_22 : decode cX4_threeUpTo 22 = .ok (.ishl, 1) := by decide +kernel
theorem dX4_threeUpTo_23 : decode cX4_threeUpTo 23 = .ok (.invokevirtual 9, 3) := by decide +kernel
theorem dX4_threeUpTo_26 : decode cX4_threeUpTo 26 = .ok (.istore 6, 2) := by decide +kernel
theorem dX4_threeUpTo_28 : decode cX4_threeUpTo 28 = .ok (.iconst 0, 1) := by decide +kernel
theorem dX4_threeUpTo_29 : decode cX4_threeUpTo 29 = .ok (.istore 7, 2) := by decide +kernel
theorem dX4_threeUpTo_31 : decode cX4_threeUpTo 31 = .ok (.iload 7, 2) := by decide +kernel
theorem dX4_threeUpTo_33 : decode cX4_threeUpTo 33 = .ok (.iload 5, 2) := by decide +kernel
theorem dX4_threeUpTo_35 : decode cX4_threeUpTo 35 = .ok (.if_icmp .ge 72, 3) := by decide +kernel
theorem dX4_threeUpTo_38 : decode cX4_threeUpTo 38 = .ok (.aload_n 0, 1) := by decide +kernel
theorem dX4_threeUpTo_39 : decode cX4_threeUpTo 39 = .ok (.iconst 1, 1) := by decide +kernel
theorem dX4_threeUpTo_40 : decode cX4_threeUpTo 40 = .ok (.iload 7, 2) := by decide +kernel
theorem dX4_threeUpTo_42 : decode cX4_threeUpTo 42 = .ok (.ishl, 1) := by decide +kernel
theorem dX4_threeUpTo_43 : decode cX4_threeUpTo 43 = .ok (.invokevirtual 9, 3) := by decide +kernel
theorem dX4_threeUpTo_46 : decode cX4_threeUpTo 46 = .ok (.istore 8, 2) := by decide +kernel
theorem dX4_threeUpTo_48 : decode cX4_threeUpTo 48 = .ok (.iconst 1, 1) := by decide +kernel
theorem dX4_threeUpTo_49 : decode cX4_threeUpTo 49 = .ok (.iload_n 1, 1) := by decide +kernel
theorem dX4_threeUpTo_50 : decode cX4_threeUpTo 50 = .ok (.ishl, 1) := by decide +kernel
theorem dX4_threeUpTo_51 : decode cX4_threeUpTo 51 = .ok (.iconst 1, 1) := by decide +kernel
theorem dX4_threeUpTo_52 : decode cX4_threeUpTo 52 = .ok (.iload 5, 2) := by decide +kernel
theorem dX4_threeUpTo_54 : decode cX4_threeUpTo 54 = .ok (.ishl, 1) := by decide +kernel
theorem dX4_threeUpTo_55 : decode cX4_threeUpTo 55 = .ok (.ior, 1) := by decide +kernel
theorem dX4_threeUpTo_56 : decode cX4_threeUpTo 56 = .ok (.iconst 1, 1) := by decide +kernel
theorem dX4_threeUpTo_57 : decode cX4_threeUpTo 57 = .ok (.iload 7, 2) := by decide +kernel
theorem dX4_threeUpTo_59 : decode cX4_threeUpTo 59 = .ok (.ishl, 1) := by decide +kernel
theorem dX4_threeUpTo_60 : decode cX4_threeUpTo 60 = .ok (.ior, 1) := by decide +kernel
theorem dX4_threeUpTo_61 : decode cX4_threeUpTo 61 = .ok (.istore 9, 2) := by decide +kernel
theorem dX4_threeUpTo_63 : decode cX4_threeUpTo 63 = .ok (.iload 9, 2) := by decide +kernel
theorem dX4_threeUpTo_65 : decode cX4_threeUpTo 65 = .ok (.iload 4, 2) := by decide +kernel
theorem dX4_threeUpTo_67 : decode cX4_threeUpTo 67 = .ok (.iload 6, 2) := by decide +kernel
theorem dX4_threeUpTo_69 : decode cX4_threeUpTo 69 = .ok (.ior, 1) := by decide +kernel
theorem dX4_threeUpTo_70 : decode cX4_threeUpTo 70 = .ok (.iload 8, 2) := by decide +kernel
theorem dX4_threeUpTo_72 : decode cX4_threeUpTo 72 = .ok (.ior, 1) := by decide +kernel
theorem dX4_threeUpTo_73 : decode cX4_threeUpTo 73 = .ok (.iload 4, 2) := by decide +kernel
theorem dX4_threeUpTo_75 : decode cX4_threeUpTo 75 = .ok (.iload 6, 2) := by decide +kernel
theorem dX4_threeUpTo_77 : decode cX4_threeUpTo 77 = .ok (.iand, 1) := by decide +kernel
theorem dX4_threeUpTo_78 : decode cX4_threeUpTo 78 = .ok (.iload 4, 2) := by decide +kernel
theorem dX4_threeUpTo_80 : decode cX4_threeUpTo 80 = .ok (.iload 8, 2) := by decide +kernel
theorem dX4_threeUpTo_82 : decode cX4_threeUpTo 82 = .ok (.iand, 1) := by decide +kernel
theorem dX4_threeUpTo_83 : decode cX4_threeUpTo 83 = .ok (.ior, 1) := by decide +kernel
theorem dX4_threeUpTo_84 : decode cX4_threeUpTo 84 = .ok (.iload 6, 2) := by decide +kernel
theorem dX4_threeUpTo_86 : decode cX4_threeUpTo 86 = .ok (.iload 8, 2) := by decide +kernel
theorem dX4_threeUpTo_88 : decode cX4_threeUpTo 88 = .ok (.iand, 1) := by decide +kernel
theorem dX4_threeUpTo_89 : decode cX4_threeUpTo 89 = .ok (.ior, 1) := by decide +kernel
theorem dX4_threeUpTo_90 : decode cX4_threeUpTo 90 = .ok (.iload_n 2, 1) := by decide +kernel
theorem dX4_threeUpTo_91 : decode cX4_threeUpTo 91 = .ok (.iload_n 3, 1) := by decide +kernel
theorem dX4_threeUpTo_92 : decode cX4_threeUpTo 92 = .ok (.invokestatic 44, 3) := by decide +kernel
theorem dX4_threeUpTo_95 : decode cX4_threeUpTo 95 = .ok (.ifCond .eq 6, 3) := by decide +kernel
theorem dX4_threeUpTo_98 : decode cX4_threeUpTo 98 = .ok (.iload 9, 2) := by decide +kernel
theorem dX4_threeUpTo_100 : decode cX4_threeUpTo 100 = .ok (.ireturn, 1) := by decide +kernel
theorem dX4_threeUpTo_101 : decode cX4_threeUpTo 101 = .ok (.iinc 7 1, 3) := by decide +kernel
theorem dX4_threeUpTo_104 : decode cX4_threeUpTo 104 = .ok (.goto (-73), 3) := by decide +kernel
theorem dX4_threeUpTo_107 : decode cX4_threeUpTo 107 = .ok (.iinc 5 1, 3) := by decide +kernel
theorem dX4_threeUpTo_110 : decode cX4_threeUpTo 110 = .ok (.goto (-98), 3) := by decide +kernel
theorem dX4_threeUpTo_113 : decode cX4_threeUpTo 113 = .ok (.iconst (-1), 1) := by decide +kernel
theorem dX4_threeUpTo_114 : decode cX4_threeUpTo 114 = .ok (.ireturn, 1) := by decide +kernel
set_option maxRecDepth 20000 in
theorem kb_41_0 : ∀ q ∈ tb_41_0, s_atx 41 yX4_threeUpTo cX4_threeUpTo q.1 q.2 := (List.forall_mem_cons.mpr ⟨⟨s_ldAn dX4_threeUpTo_0 rfl, s_mo_ldA _ _⟩, (List.forall_mem_cons.mpr ⟨⟨s_iconst dX4_threeUpTo_1 (by decide +kernel), s_mo_push _ _⟩, (List.forall_mem_cons.mpr ⟨⟨s_ldIn dX4_threeUpTo_2 rfl, s_mo_ldI _ _⟩, (List.forall_mem_cons.mpr ⟨⟨s_ishl dX4_threeUpTo_3, s_mo_bin _ _⟩, (List.forall_mem_cons.mpr ⟨⟨s_sV mk_41 mk_4 ok_4 (by decide +kernel) dX4_threeUpTo_4 w_1028 w_407 w_408 (Or.inr ⟨0, _, _, rfl, rfl⟩), s_h0 mk_41⟩, (List.forall_mem_cons.mpr ⟨⟨s_stI dX4_threeUpTo_7, s_mo_stI _ _⟩, (List.forall_mem_cons.mpr ⟨⟨s_iconst dX4_threeUpTo_9 (by decide +kernel), s_mo_push _ _⟩, (List.forall_mem_cons.mpr ⟨⟨s_stI dX4_threeUpTo_10, s_mo_stI _ _⟩, (List.forall_mem_cons.mpr ⟨⟨s_ldI dX4_threeUpTo_12, s_mo_ldI _ _⟩, (List.forall_mem_cons.mpr ⟨⟨s_ldIn dX4_threeUpTo_14 rfl, s_mo_ldI _ _⟩, (List.forall_mem_cons.mpr ⟨⟨s_icge dX4_threeUpTo_15 (by decide), s_mo_icge _ _⟩, (List.forall_mem_cons.mpr ⟨⟨s_ldAn dX4_threeUpTo_18 rfl, s_mo_ldA _ _⟩, (List.forall_mem_cons.mpr ⟨⟨s_iconst dX4_threeUpTo_19 (by decide +kernel), s_mo_push _ _⟩, (List.forall_mem_cons.mpr ⟨⟨s_ldI dX4_threeUpTo_20, s_mo_ldI _ _⟩, (List.forall_mem_cons.mpr ⟨⟨s_ishl dX4_threeUpTo_22, s_mo_bin _ _⟩, (List.forall_mem_cons.mpr ⟨⟨s_sV mk_41 mk_4 ok_4 (by decide +kernel) dX4_threeUpTo_23 w_1028 w_407 w_408 (Or.inr ⟨0, _, _, rfl, rfl⟩), s_h0 mk_41⟩, (List.forall_mem_cons.mpr ⟨⟨s_stI dX4_threeUpTo_26, s_mo_stI _ _⟩, (List.forall_mem_cons.mpr ⟨⟨s_iconst dX4_threeUpTo_28 (by decide +kernel), s_mo_push _ _⟩, (List.forall_mem_cons.mpr ⟨⟨s_stI dX4_threeUpTo_29, s_mo_stI _ _⟩, (List.forall_mem_cons.mpr ⟨⟨s_ldI dX4_threeUpTo_31, s_mo_ldI _ _⟩, (List.forall_mem_cons.mpr ⟨⟨s_ldI dX4_threeUpTo_33, s_mo_ldI _ _⟩, (List.forall_mem_cons.mpr ⟨⟨s_icge dX4_threeUpTo_35 (by decide), s_mo_icge _ _⟩, (List.forall_mem_cons.mpr ⟨⟨s_ldAn dX4_threeUpTo_38 rfl, s_mo_ldA _ _⟩, (List.forall_mem_cons.mpr ⟨⟨s_iconst dX4_threeUpTo_39 (by decide +kernel), s_mo_push _ _⟩, (List.forall_mem_cons.mpr ⟨⟨s_ldI dX4_threeUpTo_40, s_mo_ldI _ _⟩, (List.forall_mem_cons.mpr ⟨⟨s_ishl dX4_threeUpTo_42, s_mo_bin _ _⟩, (List.forall_mem_cons.mpr ⟨⟨s_sV mk_41 mk_4 ok_4 (by decide +kernel) dX4_threeUpTo_43 w_1028 w_407 w_408 (Or.inr ⟨0, _, _, rfl, rfl⟩), s_h0 mk_41⟩, (List.forall_mem_cons.mpr ⟨⟨s_stI dX4_threeUpTo_46, s_mo_stI _ _⟩, (List.forall_mem_cons.mpr ⟨⟨s_iconst dX4_threeUpTo_48 (by decide +kernel), s_mo_push _ _⟩, (List.forall_mem_cons.mpr ⟨⟨s_ldIn dX4_threeUpTo_49 rfl, s_mo_ldI _ _⟩, (List.forall_mem_cons.mpr ⟨⟨s_ishl dX4_threeUpTo_50, s_mo_bin _ _⟩, (List.forall_mem_cons.mpr ⟨⟨s_iconst dX4_threeUpTo_51 (by decide +kernel), s_mo_push _ _⟩, (List.forall_mem_cons.mpr ⟨⟨s_ldI dX4_threeUpTo_52, s_mo_ldI _ _⟩, (List.forall_mem_cons.mpr ⟨⟨s_ishl dX4_threeUpTo_54, s_mo_bin _ _⟩, (List.forall_mem_cons.mpr ⟨⟨s_ior dX4_threeUpTo_55, s_mo_bin _ _⟩, (List.forall_mem_cons.mpr ⟨⟨s_iconst dX4_threeUpTo_56 (by decide +kernel), s_mo_push _ _⟩, (List.forall_mem_cons.mpr ⟨⟨s_ldI dX4_threeUpTo_57, s_mo_ldI _ _⟩, (List.forall_mem_cons.mpr ⟨⟨s_ishl dX4_threeUpTo_59, s_mo_bin _ _⟩, (List.forall_mem_cons.mpr ⟨⟨s_ior dX4_threeUpTo_60, s_mo_bin _ _⟩, (List.forall_mem_cons.mpr ⟨⟨s_stI dX4_threeUpTo_61, s_mo_stI _ _⟩, (List.forall_mem_cons.mpr ⟨⟨s_ldI dX4_threeUpTo_63, s_mo_ldI _ _⟩, (fun _ h => absurd h List.not_mem_nil)⟩)⟩)⟩)⟩)⟩)⟩)⟩)⟩)⟩)⟩)⟩)⟩)⟩)⟩)⟩)⟩)⟩)⟩)⟩)⟩)⟩)⟩)⟩)⟩)⟩)⟩)⟩)⟩)⟩)⟩)⟩)⟩)⟩)⟩)⟩)⟩)⟩)⟩)⟩)⟩)⟩)
set_option maxRecDepth 20000 in
theorem kb_41_1 : ∀ q ∈ tb_41_1, s_atx 41 yX4_threeUpTo cX4_threeUpTo q.1 q.2 := (List.forall_mem_cons.mpr ⟨⟨s_ldI dX4_threeUpTo_65, s_mo_ldI _ _⟩, (List.forall_mem_cons.mpr ⟨⟨s_ldI dX4_threeUpTo_67, s_mo_ldI _ _⟩, (List.forall_mem_cons.mpr ⟨⟨s_ior dX4_threeUpTo_69, s_mo_bin _ _⟩, (List.forall_mem_cons.mpr ⟨⟨s_ldI dX4_threeUpTo_70, s_mo_ldI _ _⟩, (List.forall_mem_cons.mpr ⟨⟨s_ior dX4_threeUpTo_72, s_mo_bin _ _⟩, (List.forall_mem_cons.mpr ⟨⟨s_ldI dX4_threeUpTo_73, s_mo_ldI _ _⟩, (List.forall_mem_cons.mpr ⟨⟨s_ldI dX4_threeUpTo_75, s_mo_ldI _ _⟩, (List.forall_mem_cons.mpr ⟨⟨s_iand dX4_threeUpTo_77, s_mo_bin _ _⟩, (List.forall_mem_cons.mpr ⟨⟨s_ldI dX4_threeUpTo_78, s_mo_ldI _ _⟩, (List.forall_mem_cons.mpr ⟨⟨s_ldI dX4_threeUpTo_80, s_mo_ldI _ _⟩, (List.forall_mem_cons.mpr ⟨⟨s_iand dX4_threeUpTo_82, s_mo_bin _ _⟩, (List.forall_mem_cons.mpr ⟨⟨s_ior dX4_threeUpTo_83, s_mo_bin _ _⟩, (List.forall_mem_cons.mpr ⟨⟨s_ldI dX4_threeUpTo_84, s_mo_ldI _ _⟩, (List.forall_mem_cons.mpr ⟨⟨s_ldI dX4_threeUpTo_86, s_mo_ldI _ _⟩, (List.forall_mem_cons.mpr ⟨⟨s_iand dX4_threeUpTo_88, s_mo_bin _ _⟩, (List.forall_mem_cons.mpr ⟨⟨s_ior dX4_threeUpTo_89, s_mo_bin _ _⟩, (List.forall_mem_cons.mpr ⟨⟨s_ldIn dX4_threeUpTo_90 rfl, s_mo_ldI _ _⟩, (List.forall_mem_cons.mpr ⟨⟨s_ldIn dX4_threeUpTo_91 rfl, s_mo_ldI _ _⟩, (List.forall_mem_cons.mpr ⟨⟨s_sS mk_41 mk_42 ok_42 (by decide +kernel) dX4_threeUpTo_92 w_1197 w_1198, s_h0 mk_41⟩, (List.forall_mem_cons.mpr ⟨⟨s_ifeq dX4_threeUpTo_95 (by decide), s_mo_ifeq _ _⟩, (List.forall_mem_cons.mpr ⟨⟨s_ldI dX4_threeUpTo_98, s_mo_ldI _ _⟩, (List.forall_mem_cons.mpr ⟨s_r1 mk_41 dX4_threeUpTo_100, (List.forall_mem_cons.mpr ⟨⟨s_inc dX4_threeUpTo_101 (by decide +kernel), s_mo_inc _ _ _⟩, (List.forall_mem_cons.mpr ⟨⟨s_goto dX4_threeUpTo_104 (by decide), s_mo_goto _⟩, (List.forall_mem_cons.mpr ⟨⟨s_inc dX4_threeUpTo_107 (by decide +kernel), s_mo_inc _ _ _⟩, (List.forall_mem_cons.mpr ⟨⟨s_goto dX4_threeUpTo_110 (by decide), s_mo_goto _⟩, (List.forall_mem_cons.mpr ⟨⟨s_iconst dX4_threeUpTo_113 (by decide +kernel), s_mo_push _ _⟩, (List.forall_mem_cons.mpr ⟨s_r1 mk_41 dX4_threeUpTo_114, (fun _ h => absurd h List.not_mem_nil)⟩)⟩)⟩)⟩)⟩)⟩)⟩)⟩)⟩)⟩)⟩)⟩)⟩)⟩)⟩)⟩)⟩)⟩)⟩)⟩)⟩)⟩)⟩)⟩)⟩)⟩)⟩)⟩)
theorem km_41 : ∀ t ∈ tm_41, s_tok 41 t := (List.forall_mem_cons.mpr ⟨s_lift mk_41 kb_41_0, (List.forall_mem_cons.mpr ⟨s_lift mk_41 kb_41_1, (fun _ h => absurd h List.not_mem_nil)⟩)⟩)
theorem dX4_isEnough_0 : decode cX4_isEnough 0 = .ok (.iload_n 3, 1) := by decide +kernel
theorem dX4_isEnough_1 : decode cX4_isEnough 1 = .ok (.iload_n 0, 1) := by decide +kernel
theorem dX4_isEnough_2 : decode cX4_isEnough 2 = .ok (.iconst (-1), 1) := by decide +kernel
theorem dX4_isEnough_3 : decode cX4_isEnough 3 = .ok (.ixor, 1) := by decide +kernel
theorem dX4_isEnough_4 : decode cX4_isEnough 4 = .ok (.iand, 1) := by decide +kernel
theorem dX4_isEnough_5 : decode cX4_isEnough 5 = .ok (.iload_n 1, 1) := by decide +kernel
theorem dX4_isEnough_6 : decode cX4_isEnough 6 = .ok (.iconst (-1), 1) := by decide +kernel
theorem dX4_isEnough_7 : decode cX4_isEnough 7 = .ok (.ixor, 1) := by decide +kernel
theorem dX4_isEnough_8 : decode cX4_isEnough 8 = .ok (.iand, 1) := by decide +kernel
theorem dX4_isEnough_9 : decode cX4_isEnough 9 = .ok (.iload 4, 2) := by decide +kernel
theorem dX4_isEnough_11 : decode cX4_isEnough 11 = .ok (.iload_n 0, 1) := by decide +kernel
theorem dX4_isEnough_12 : decode cX4_isEnough 12 = .ok (.iconst (-1), 1) := by decide +kernel
theorem dX4_isEnough_13 : decode cX4_isEnough 13 = .ok (.ixor, 1) := by decide +kernel
theorem dX4_isEnough_14 : decode cX4_isEnough 14 = .ok (.iand, 1) := by decide +kernel
theorem dX4_isEnough_15 : decode cX4_isEnough 15 = .ok (.iload_n 2, 1) := by decide +kernel
theorem dX4_isEnough_16 : decode cX4_isEnough 16 = .ok (.iconst (-1), 1) := by decide +kernel
theorem dX4_isEnough_17 : decode cX4_isEnough 17 = .ok (.ixor, 1) := by decide +kernel
theorem dX4_isEnough_18 : decode cX4_isEnough 18 = .ok (.iand, 1) := by decide +kernel
theorem dX4_isEnough_19 : decode cX4_isEnough 19 = .ok (.ior, 1) := by decide +kernel
theorem dX4_isEnough_20 : decode cX4_isEnough 20 = .ok (.ifCond .ne 7, 3) := by decide +kernel
theorem dX4_isEnough_23 : decode cX4_isEnough 23 = .ok (.iconst 1, 1) := by decide +kernel
theorem dX4_isEnough_24 : decode cX4_isEnough 24 = .ok (.goto 4, 3) := by decide +kernel
theorem dX4_isEnough_27 : decode cX4_isEnough 27 = .ok (.iconst 0, 1) := by decide +kernel
theorem dX4_isEnough_28 : decode cX4_isEnough 28 = .ok (.ireturn, 1) := by decide +kernel
set_option maxRecDepth 20000 in
theorem kb_42_0 : ∀ q ∈ tb_42_0, s_atx 42 yX4_isEnough cX4_isEnough q.1 q.2 := (List.forall_mem_cons.mpr ⟨⟨s_ldIn dX4_isEnough_0 rfl, s_mo_ldI _ _⟩, (List.forall_mem_cons.mpr ⟨⟨s_ldIn dX4_isEnough_1 rfl, s_mo_ldI _ _⟩, (List.forall_mem_cons.mpr ⟨⟨s_iconst dX4_isEnough_2 (by decide +kernel), s_mo_push _ _⟩, (List.forall_mem_cons.mpr ⟨⟨s_ixor dX4_isEnough_3, s_mo_bin _ _⟩, (List.forall_mem_cons.mpr ⟨⟨s_iand dX4_isEnough_4, s_mo_bin _ _⟩, (List.forall_mem_cons.mpr ⟨⟨s_ldIn dX4_isEnough_5 rfl, s_mo_ldI _ _⟩, (List.forall_mem_cons.mpr ⟨⟨s_iconst dX4_isEnough_6 (by decide +kernel), s_mo_push _ _⟩, (List.forall_mem_cons.mpr ⟨⟨s_ixor dX4_isEnough_7, s_mo_bin _ _⟩, (List.forall_mem_cons.mpr ⟨⟨s_iand dX4_isEnough_8, s_mo_bin _ _⟩, (List.forall_mem_cons.mpr ⟨⟨s_ldI dX4_isEnough_9, s_mo_ldI _ _⟩, (List.forall_mem_cons.mpr ⟨⟨s_ldIn dX4_isEnough_11 rfl, s_mo_ldI _ _⟩, (List.forall_mem_cons.mpr ⟨⟨s_iconst dX4_isEnough_12 (by decide +kernel), s_mo_push _ _⟩, (List.forall_mem_cons.mpr ⟨⟨s_ixor dX4_isEnough_13, s_mo_bin _ _⟩, (List.forall_mem_cons.mpr ⟨⟨s_iand dX4_isEnough_14, s_mo_bin _ _⟩, (List.forall_mem_cons.mpr ⟨⟨s_ldIn dX4_isEnough_15 rfl, s_mo_ldI _ _⟩, (List.forall_mem_cons.mpr ⟨⟨s_iconst dX4_isEnough_16 (by decide +kernel), s_mo_push _ _⟩, (List.forall_mem_cons.mpr ⟨⟨s_ixor dX4_isEnough_17, s_mo_bin _ _⟩, (List.forall_mem_cons.mpr ⟨⟨s_iand dX4_isEnough_18, s_mo_bin _ _⟩, (List.forall_mem_cons.mpr ⟨⟨s_ior dX4_isEnough_19, s_mo_bin _ _⟩, (List.forall_mem_cons.mpr ⟨⟨s_ifne dX4_isEnough_20 (by decide), s_mo_ifne _ _⟩, (List.forall_mem_cons.mpr ⟨⟨s_iconst dX4_isEnough_23 (by decide +kernel), s_mo_push _ _⟩, (List.forall_mem_cons.mpr ⟨⟨s_goto dX4_isEnough_24 (by decide), s_mo_goto _⟩, (List.forall_mem_cons.mpr ⟨⟨s_iconst dX4_isEnough_27 (by decide +kernel), s_mo_push _ _⟩, (List.forall_mem_cons.mpr ⟨s_r2 mk_42 dX4_isEnough_28, (fun _ h => absurd h List.not_mem_nil)⟩)⟩)⟩)⟩)⟩)⟩)⟩)⟩)⟩)⟩)⟩)⟩)⟩)⟩)⟩)⟩)⟩)⟩)⟩)⟩)⟩)⟩)⟩)⟩)
theorem km_42 : ∀ t ∈ tm_42, s_tok 42 t := (List.forall_mem_cons.mpr ⟨s_lift mk_42 kb_42_0, (fun _ h => absurd h List.not_mem_nil)⟩)
theorem dX5_init_0 : decode cX5_init 0 = .ok (.aload_n 0, 1) := by decide +kernel
theorem dX5_init_1 : decode cX5_init 1 = .ok (.invokespecial 3, 3) := by decide +kernel
theorem dX5_init_4 : decode cX5_init 4 = .ok (.aload_n 0, 1) := by decide +kernel
theorem dX5_init_5 : decode cX5_init 5 = .ok (.iconst (-1), 1) := by decide +kernel
theorem dX5_init_6 : decode cX5_init 6 = .ok (.putfield 9, 3) := by decide +kernel
theorem dX5_init_9 : decode cX5_init 9 = .ok (.aload_n 0, 1) := by decide +kernel
theorem dX5_init_10 : decode cX5_init 10 = .ok (.bipush 12, 2) := by decide +kernel
theorem dX5_init_12 : decode cX5_init 12 = .ok (.newarray .int, 2) := by decide +kernel
theorem dX5_init_14 : decode cX5_init 14 = .ok (.putfield 15, 3) := by decide +kernel
theorem dX5_init_17 : decode cX5_init 17 = .ok (.aload_n 0, 1) := by decide +kernel
theorem dX5_init_18 : decode cX5_init 18 = .ok (.bipush 12, 2) := by decide +kernel
theorem dX5_init_20 : decode cX5_init 20 = .ok (.newarray .int, 2) := by decide +kernel
theorem dX5_init_22 : decode cX5_init 22 = .ok (.putfield 19, 3) := by decide +kernel
theorem dX5_init_25 : decode cX5_init 25 = .ok (.aload_n 0, 1) := by decide +kernel
theorem dX5_init_26 : decode cX5_init 26 = .ok (.bipush 12, 2) := by decide +kernel
theorem dX5_init_28 : decode cX5_init 28 = .ok (.newarray .int, 2) := by decide +kernel
theorem dX5_init_30 : decode cX5_init 30 = .ok (.putfield 22, 3) := by decide +kernel
theorem dX5_init_33 : decode cX5_init 33 = .ok (.aload_n 0, 1) := by decide +kernel
theorem dX5_init_34 : decode cX5_init 34 = .ok (.sipush 400, 3) := by decide +kernel
theorem dX5_init_37 : decode cX5_init 37 = .ok (.newarray .int, 2) := by decide +kernel
theorem dX5_init_39 : decode cX5_init 39 = .ok (.putfield 25, 3) := by decide +kernel
theorem dX5_init_42 : decode cX5_init 42 = .ok (.aload_n 0, 1) := by decide +kernel
theorem dX5_init_43 : decode cX5_init 43 = .ok (.iconst 0, 1) := by decide +kernel
theorem dX5_init_44 : decode cX5_init 44 = .ok (.putfield 28, 3) := by decide +kernel
theorem dX5_init_47 : decode cX5_init 47 = .ok (.aload_n 0, 1) := by decide +kernel
theorem dX5_init_48 : decode cX5_init 48 = .ok (.bipush 7, 2) := by decide +kernel
theorem dX5_init_50 : decode cX5_init 50 = .ok (.newarray .int, 2) := by decide +kernel
theorem dX5_init_52 : decode cX5_init 52 = .ok (.putfield 31, 3) := by decide +kernel
theorem dX5_init_55 : decode cX5_init 55 = .ok (.aload_n 0, 1) := by decide +kernel
theorem dX5_init_56 : decode cX5_init 56 = .ok (.bipush 20, 2) := by decide +kernel
theorem dX5_init_58 : decode cX5_init 58 = .ok (.newarray .int, 2) := by decide +kernel
theorem dX5_init_60 : decode cX5_init 60 = .ok (.putfield 34, 3) := by decide +kernel
theorem dX5_init_63 : decode cX5_init 63 = .ok (.return_, 1) := by decide +kernel
set_option maxRecDepth 20000 in
theorem kb_43_0 : ∀ q ∈ tb_43_0, s_atx 43 yX5_init cX5_init q.1 q.2 := (List.forall_mem_cons.mpr ⟨⟨s_ldAn dX5_init_0 rfl, s_mo_ldA _ _⟩, (List.forall_mem_cons.mpr ⟨⟨s_oinit w_165 w_oi w_oc dX5_init_1, s_mo_oinit _⟩, (List.forall_mem_cons.mpr ⟨⟨s_ldAn dX5_init_4 rfl, s_mo_ldA _ _⟩, (List.forall_mem_cons.mpr ⟨⟨s_iconst dX5_init_5 (by decide +kernel), s_mo_push _ _⟩, (List.forall_mem_cons.mpr ⟨⟨s_putI (ci := 2) (k := 0) rfl (by decide) inX5 tyX5_ok nmX5 rfl rfl w_166 dX5_init_6, s_mo_putI _ _ _⟩, (List.forall_mem_cons.mpr ⟨⟨s_ldAn dX5_init_9 rfl, s_mo_ldA _ _⟩, (List.forall_mem_cons.mpr ⟨⟨s_bipush dX5_init_10 (by decide +kernel), s_mo_push _ _⟩, (List.forall_mem_cons.mpr ⟨⟨s_newa (t := 0) (aty := .int) (ty := .int) (by decide) rfl (fun _ => rfl) (fun _ _ h => h) (by decide) (fun _ _ => ⟨_, rfl, rfl⟩) w_arr0 dX5_init_12, s_mo_newa _ _⟩, (List.forall_mem_cons.mpr ⟨⟨s_putAF (ci := 2) (k := 1) rfl (by decide) inX5 tyX5_ok nmX5 rfl rfl rfl (fun _ => rfl) (fun _ => rfl) w_168 dX5_init_14, s_mo_putA _ _ _⟩, (List.forall_mem_cons.mpr ⟨⟨s_ldAn dX5_init_17 rfl, s_mo_ldA _ _⟩, (List.forall_mem_cons.mpr ⟨⟨s_bipush dX5_init_18 (by decide +kernel), s_mo_push _ _⟩, (List.forall_mem_cons.mpr ⟨⟨s_newa (t := 0) (aty := .int) (ty := .int) (by decide) rfl (fun _ => rfl) (fun _ _ h => h) (by decide) (fun _ _ => ⟨_, rfl, rfl⟩) w_arr0 dX5_init_20, s_mo_newa _ _⟩, (List.forall_mem_cons.mpr ⟨⟨s_putAF (ci := 2) (k := 2) rfl (by decide) inX5 tyX5_ok nmX5 rfl rfl rfl (fun _ => rfl) (fun _ => rfl) w_169 dX5_init_22, s_mo_putA _ _ _⟩, (List.forall_mem_cons.mpr ⟨⟨s_ldAn dX5_init_25 rfl, s_mo_ldA _ _⟩, (List.forall_mem_cons.mpr ⟨⟨s_bipush dX5_init_26 (by decide +kernel), s_mo_push _ _⟩, (List.forall_mem_cons.mpr ⟨⟨s_newa (t := 0) (aty := .int) (ty := .int) (by decide) rfl (fun _ => rfl) (fun _ _ h => h) (by decide) (fun _ _ => ⟨_, rfl, rfl⟩) w_arr0 dX5_init_28, s_mo_newa _ _⟩, (List.forall_mem_cons.mpr ⟨⟨s_putAF (ci := 2) (k := 3) rfl (by decide) inX5 tyX5_ok nmX5 rfl rfl rfl (fun _ => rfl) (fun _ => rfl) w_170 dX5_init_30, s_mo_putA _ _ _⟩, (List.forall_mem_cons.mpr ⟨⟨s_ldAn dX5_init_33 rfl, s_mo_ldA _ _⟩, (List.forall_mem_cons.mpr ⟨⟨s_sipush dX5_init_34 (by decide +kernel), s_mo_push _ _⟩, (List.forall_mem_cons.mpr ⟨⟨s_newa (t := 0) (aty := .int) (ty := .int) (by decide) rfl (fun _ => rfl) (fun _ _ h => h) (by decide) (fun _ _ => ⟨_, rfl, rfl⟩) w_arr0 dX5_init_37, s_mo_newa _ _⟩, (List.forall_mem_cons.mpr ⟨⟨s_putAF (ci := 2) (k := 4) rfl (by decide) inX5 tyX5_ok nmX5 rfl rfl rfl (fun _ => rfl) (fun _ => rfl) w_171 dX5_init_39, s_mo_putA _ _ _⟩, (List.forall_mem_cons.mpr ⟨⟨s_ldAn dX5_init_42 rfl, s_mo_ldA _ _⟩, (List.forall_mem_cons.mpr ⟨⟨s_iconst dX5_init_43 (by decide +kernel), s_mo_push _ _⟩, (List.forall_mem_cons.mpr ⟨⟨s_putI (ci := 2) (k := 5) rfl (by decide) inX5 tyX5_ok nmX5 rfl rfl w_172 dX5_init_44, s_mo_putI _ _ _⟩, (List.forall_mem_cons.mpr ⟨⟨s_ldAn dX5_init_47 rfl, s_mo_ldA _ _⟩, (List.forall_mem_cons.mpr ⟨⟨s_bipush dX5_init_48 (by decide +kernel), s_mo_push _ _⟩, (List.forall_mem_cons.mpr ⟨⟨s_newa (t := 0) (aty := .int) (ty := .int) (by decide) rfl (fun _ => rfl) (fun _ _ h => h) (by decide) (fun _ _ => ⟨_, rfl, rfl⟩) w_arr0 dX5_init_50, s_mo_newa _ _⟩, (List.forall_mem_cons.mpr ⟨⟨s_putAF (ci := 2) (k := 6) rfl (by decide) inX5 tyX5_ok nmX5 rfl rfl rfl (fun _ => rfl) (fun _ => rfl) w_173 dX5_init_52, s_mo_putA _ _ _⟩, (List.forall_mem_cons.mpr ⟨⟨s_ldAn dX5_init_55 rfl, s_mo_ldA _ _⟩, (List.forall_mem_cons.mpr ⟨⟨s_bipush dX5_init_56 (by decide +kernel), s_mo_push _ _⟩, (List.forall_mem_cons.mpr ⟨⟨s_newa (t := 0) (aty := .int) (ty := .int) (by decide) rfl (fun _ => rfl) (fun _ _ h => h) (by decide) (fun _ _ => ⟨_, rfl, rfl⟩) w_arr0 dX5_init_58, s_mo_newa _ _⟩, (List.forall_mem_cons.mpr ⟨⟨s_putAF (ci := 2) (k := 7) rfl (by decide) inX5 tyX5_ok nmX5 rfl rfl rfl (fun _ => rfl) (fun _ => rfl) w_174 dX5_init_60, s_mo_putA _ _ _⟩, (List.forall_mem_cons.mpr ⟨s_r0 mk_43 dX5_init_63, (fun _ h => absurd h List.not_mem_nil)⟩)⟩)⟩)⟩)⟩)⟩)⟩)⟩)⟩)⟩)⟩)⟩)⟩)⟩)⟩)⟩)⟩)⟩)⟩)⟩)⟩)⟩)⟩)⟩)⟩)⟩)⟩)⟩)⟩)⟩)⟩)⟩)⟩)
theorem km_43 : ∀ t ∈ tm_43, s_tok 43 t := (List.forall_mem_cons.mpr ⟨s_lift mk_43 kb_43_0, (fun _ h => absurd h List.not_mem_nil)⟩)
theorem dX5_become_0 : decode cX5_become 0 = .ok (.aload_n 0, 1) := by decide +kernel
theorem dX5_become_1 : decode cX5_become 1 = .ok (.aload_n 1, 1) := by decide +kernel
theorem dX5_become_2 : decode cX5_become 2 = .ok (.getfield 9, 3) := by decide +kernel
theorem dX5_become_5 : decode cX5_become 5 = .ok (.putfield 9, 3) := by decide +kernel
theorem dX5_become_8 : decode cX5_become 8 = .ok (.aload_n 0, 1) := by decide +kernel
theorem dX5_become_9 : decode cX5_become 9 = .ok (.aload_n 1, 1) := by decide +kernel
theorem dX5_become_10 : decode cX5_become 10 = .ok (.getfield 28, 3) := by decide +kernel
theorem dX5_become_13 : decode cX5_become 13 = .ok (.putfield 28, 3) := by decide +kernel
theorem dX5_become_16 : decode cX5_become 16 = .ok (.aload_n 1, 1) := by decide +kernel
theorem dX5_become_17 : decode cX5_become 17 = .ok (.getfield 15, 3) := by decide +kernel
theorem dX5_become_20 : decode cX5_become 20 = .ok (.iconst 0, 1) := by decide +kernel
theorem dX5_become_21 : decode cX5_become 21 = .ok (.aload_n 0, 1) := by decide +kernel
theorem dX5_become_22 : decode cX5_become 22 = .ok (.getfield 15, 3) := by decide +kernel
theorem dX5_become_25 : decode cX5_become 25 = .ok (.iconst 0, 1) := by decide +kernel
theorem dX5_become_26 : decode cX5_become 26 = .ok (.bipush 12, 2) := by decide +kernel
theorem dX5_become_28 : decode cX5_become 28 = .ok (.invokestatic 37, 3) := by decide +kernel
theorem dX5_become_31 : decode cX5_become 31 = .ok (.aload_n 1, 1) := by decide +kernel
theorem dX5_become_32 : decode cX5_become 32 = .ok (.getfield 19, 3) := by decide +kernel
theorem dX5_become_35 : decode cX5_become 35 = .ok (.iconst 0, 1) := by decide +kernel
theorem dX5_become_36 : decode cX5_become 36 = .ok (.aload_n 0, 1) := by decide +kernel
theorem dX5_become_37 : decode cX5_become 37 = .ok (.getfield 19, 3) := by decide +kernel
theorem dX5_become_40 : decode cX5_become 40 = .ok (.iconst 0, 1) := by decide +kernel
theorem dX5_become_41 : decode cX5_become 41 = .ok (.bipush 12, 2) := by decide +kernel
theorem dX5_become_43 : decode cX5_become 43 = .ok (.invokestatic 37, 3) := by decide +kernel
theorem dX5_become_46 : decode cX5_become 46 = .ok (.aload_n 1, 1) := by decide +kernel
theorem dX5_become_47 : decode cX5_become 47 = .ok (.getfield 22, 3) := by decide +kernel
theorem dX5_become_50 : decode cX5_become 50 = .ok (.iconst 0, 1) := by decide +kernel
theorem dX5_become_51 : decode cX5_become 51 = .ok (.aload_n 0, 1) := by decide +kernel
theorem dX5_become_52 : decode cX5_become 52 = .ok (.getfield 22, 3) := by decide +kernel
theorem dX5_become_55 : decode cX5_become 55 = .ok (.iconst 0, 1) := by decide +kernel
theorem dX5_become_56 : decode cX5_become 56 = .ok (.bipush 12, 2) := by decide +kernel
theorem dX5_become_58 : decode cX5_become 58 = .ok (.invokestatic 37, 3) := by decide +kernel
theorem dX5_become_61 : decode cX5_become 61 = .ok (.aload_n 1, 1) := by decide +kernel
theorem dX5_become_62 : decode cX5_become 62 = .ok (.getfield 25, 3) := by decide +kernel
theorem dX5_become_65 : decode cX5_become 65 = .ok (.iconst 0, 1) := by decide +kernel
theorem dX5_become_66 : decode cX5_become 66 = .ok (.aload_n 0, 1) := by decide +kernel
theorem dX5_become_67 : decode cX5_become 67 = .ok (.getfield 25, 3) := by decide +kernel
theorem dX5_become_70 : decode cX5_become 70 = .ok (.iconst 0, 1) := by decide +kernel
theorem dX5_become_71 : decode cX5_become 71 = .ok (.sipush 400, 3) := by decide +kernel
theorem dX5_become_74 : decode cX5_become 74 = .ok (.invokestatic 37, 3) := by decide +kernel
theorem dX5_become_77 : decode cX5_become 77 = .ok (.return_, 1) := by decide +kernel
set_option maxRecDepth 20000 in
theorem kb_44_0 : ∀ q ∈ tb_44_0, s_atx 44 yX5_become cX5_become q.1 q.2 := (List.forall_mem_cons.mpr ⟨⟨s_ldAn dX5_become_0 rfl, s_mo_ldA _ _⟩, (List.forall_mem_cons.mpr ⟨⟨s_ldAn dX5_become_1 rfl, s_mo_ldA _ _⟩, (List.forall_mem_cons.mpr ⟨⟨s_getf (ci := 2) (k := 0) rfl (by decide) inX5 w_166 dX5_become_2, s_mo_getf _ _ _⟩, (List.forall_mem_cons.mpr ⟨⟨s_putI (ci := 2) (k := 0) rfl (by decide) inX5 tyX5_ok nmX5 rfl rfl w_166 dX5_become_5, s_mo_putI _ _ _⟩, (List.forall_mem_cons.mpr ⟨⟨s_ldAn dX5_become_8 rfl, s_mo_ldA _ _⟩, (List.forall_mem_cons.mpr ⟨⟨s_ldAn dX5_become_9 rfl, s_mo_ldA _ _⟩, (List.forall_mem_cons.mpr ⟨⟨s_getf (ci := 2) (k := 5) rfl (by decide) inX5 w_172 dX5_become_10, s_mo_getf _ _ _⟩, (List.forall_mem_cons.mpr ⟨⟨s_putI (ci := 2) (k := 5) rfl (by decide) inX5 tyX5_ok nmX5 rfl rfl w_172 dX5_become_13, s_mo_putI _ _ _⟩, (List.forall_mem_cons.mpr ⟨⟨s_ldAn dX5_become_16 rfl, s_mo_ldA _ _⟩, (List.forall_mem_cons.mpr ⟨⟨s_getf (ci := 2) (k := 1) rfl (by decide) inX5 w_168 dX5_become_17, s_mo_getf _ _ _⟩, (List.forall_mem_cons.mpr ⟨⟨s_iconst dX5_become_20 (by decide +kernel), s_mo_push _ _⟩, (List.forall_mem_cons.mpr ⟨⟨s_ldAn dX5_become_21 rfl, s_mo_ldA _ _⟩, (List.forall_mem_cons.mpr ⟨⟨s_getf (ci := 2) (k := 1) rfl (by decide) inX5 w_168 dX5_become_22, s_mo_getf _ _ _⟩, (List.forall_mem_cons.mpr ⟨⟨s_iconst dX5_become_25 (by decide +kernel), s_mo_push _ _⟩, (List.forall_mem_cons.mpr ⟨⟨s_bipush dX5_become_26 (by decide +kernel), s_mo_push _ _⟩, (List.forall_mem_cons.mpr ⟨⟨s_copy w_469 w_an w_as w_ai dX5_become_28, s_mo_copy _⟩, (List.forall_mem_cons.mpr ⟨⟨s_ldAn dX5_become_31 rfl, s_mo_ldA _ _⟩, (List.forall_mem_cons.mpr ⟨⟨s_getf (ci := 2) (k := 2) rfl (by decide) inX5 w_169 dX5_become_32, s_mo_getf _ _ _⟩, (List.forall_mem_cons.mpr ⟨⟨s_iconst dX5_become_35 (by decide +kernel), s_mo_push _ _⟩, (List.forall_mem_cons.mpr ⟨⟨s_ldAn dX5_become_36 rfl, s_mo_ldA _ _⟩, (List.forall_mem_cons.mpr ⟨⟨s_getf (ci := 2) (k := 2) rfl (by decide) inX5 w_169 dX5_become_37, s_mo_getf _ _ _⟩, (List.forall_mem_cons.mpr ⟨⟨s_iconst dX5_become_40 (by decide +kernel), s_mo_push _ _⟩, (List.forall_mem_cons.mpr ⟨⟨s_bipush dX5_become_41 (by decide +kernel), s_mo_push _ _⟩, (List.forall_mem_cons.mpr ⟨⟨s_copy w_469 w_an w_as w_ai dX5_become_43, s_mo_copy _⟩, (List.forall_mem_cons.mpr ⟨⟨s_ldAn dX5_become_46 rfl, s_mo_ldA _ _⟩, (List.forall_mem_cons.mpr ⟨⟨s_getf (ci := 2) (k := 3) rfl (by decide) inX5 w_170 dX5_become_47, s_mo_getf _ _ _⟩, (List.forall_mem_cons.mpr ⟨⟨s_iconst dX5_become_50 (by decide +kernel), s_mo_push _ _⟩, (List.forall_mem_cons.mpr ⟨⟨s_ldAn dX5_become_51 rfl, s_mo_ldA _ _⟩, (List.forall_mem_cons.mpr ⟨⟨s_getf (ci := 2) (k := 3) rfl (by decide) inX5 w_170 dX5_become_52, s_mo_getf _ _ _⟩, (List.forall_mem_cons.mpr ⟨⟨s_iconst dX5_become_55 (by decide +kernel), s_mo_push _ _⟩, (List.forall_mem_cons.mpr ⟨⟨s_bipush dX5_become_56 (by decide +kernel), s_mo_push _ _⟩, (List.forall_mem_cons.mpr ⟨⟨s_copy w_469 w_an w_as w_ai dX5_become_58, s_mo_copy _⟩, (List.forall_mem_cons.mpr ⟨⟨s_ldAn dX5_become_61 rfl, s_mo_ldA _ _⟩, (List.forall_mem_cons.mpr ⟨⟨s_getf (ci := 2) (k := 4) rfl (by decide) inX5 w_171 dX5_become_62, s_mo_getf _ _ _⟩, (fun _ h => absurd h List.not_mem_nil)⟩)⟩)⟩)⟩)⟩)⟩)⟩)⟩)⟩)⟩)⟩)⟩)⟩)⟩)⟩)⟩)⟩)⟩)⟩)⟩)⟩)⟩)⟩)⟩)⟩)⟩)⟩)⟩)⟩)⟩)⟩)⟩)⟩)⟩)
set_option maxRecDepth 20000 in
theorem kb_44_1 : ∀ q ∈ tb_44_1, s_atx 44 yX5_become cX5_become q.1 q.2 := (List.forall_mem_cons.mpr ⟨⟨s_iconst dX5_become_65 (by decide +kernel), s_mo_push _ _⟩, (List.forall_mem_cons.mpr ⟨⟨s_ldAn dX5_become_66 rfl, s_mo_ldA _ _⟩, (List.forall_mem_cons.mpr ⟨⟨s_getf (ci := 2) (k := 4) rfl (by decide) inX5 w_171 dX5_become_67, s_mo_getf _ _ _⟩, (List.forall_mem_cons.mpr ⟨⟨s_iconst dX5_become_70 (by decide +kernel), s_mo_push _ _⟩, (List.forall_mem_cons.mpr ⟨⟨s_sipush dX5_become_71 (by decide +kernel), s_mo_push _ _⟩, (List.forall_mem_cons.mpr ⟨⟨s_copy w_469 w_an w_as w_ai dX5_become_74, s_mo_copy _⟩, (List.forall_mem_cons.mpr ⟨s_r0 mk_44 dX5_become_77, (fun _ h => absurd h List.not_mem_nil)⟩)⟩)⟩)⟩)⟩)⟩)⟩)
theorem km_44 : ∀ t ∈ tm_44, s_tok 44 t := (List.forall_mem_cons.mpr ⟨s_lift mk_44 kb_44_0, (List.forall_mem_cons.mpr ⟨s_lift mk_44 kb_44_1, (fun _ h => absurd h List.not_mem_nil)⟩)⟩)
