/-! The tables are backed, piece by piece: written by wip/whole/gen_prog.py -/
theorem dX7_greatest_0 : decode cX7_greatest 0 = .ok (.aload_n 0, 1) := by decide +kernel
theorem dX7_greatest_1 : decode cX7_greatest 1 = .ok (.getfield 19, 3) := by decide +kernel
theorem dX7_greatest_4 : decode cX7_greatest 4 = .ok (.iload_n 2, 1) := by decide +kernel
theorem dX7_greatest_5 : decode cX7_greatest 5 = .ok (.iconst (-1), 1) := by decide +kernel
theorem dX7_greatest_6 : decode cX7_greatest 6 = .ok (.ixor, 1) := by decide +kernel
theorem dX7_greatest_7 : decode cX7_greatest 7 = .ok (.iand, 1) := by decide +kernel
theorem dX7_greatest_8 : decode cX7_greatest 8 = .ok (.istore_n 3, 1) := by decide +kernel
theorem dX7_greatest_9 : decode cX7_greatest 9 = .ok (.aload_n 0, 1) := by decide +kernel
theorem dX7_greatest_10 : decode cX7_greatest 10 = .ok (.iload_n 3, 1) := by decide +kernel
theorem dX7_greatest_11 : decode cX7_greatest 11 = .ok (.invokestatic 22, 3) := by decide +kernel
theorem dX7_greatest_14 : decode cX7_greatest 14 = .ok (.ifCond .ne 5, 3) := by decide +kernel
theorem dX7_greatest_17 : decode cX7_greatest 17 = .ok (.iconst 0, 1) := by decide +kernel
theorem dX7_greatest_18 : decode cX7_greatest 18 = .ok (.ireturn, 1) := by decide +kernel
theorem dX7_greatest_19 : decode cX7_greatest 19 = .ok (.iconst 1, 1) := by decide +kernel
theorem dX7_greatest_20 : decode cX7_greatest 20 = .ok (.iconst 1, 1) := by decide +kernel
theorem dX7_greatest_21 : decode cX7_greatest 21 = .ok (.aload_n 0, 1) := by decide +kernel
theorem dX7_greatest_22 : decode cX7_greatest 22 = .ok (.getfield 9, 3) := by decide +kernel
theorem dX7_greatest_25 : decode cX7_greatest 25 = .ok (.iconst 1, 1) := by decide +kernel
theorem dX7_greatest_26 : decode cX7_greatest 26 = .ok (.isub, 1) := by decide +kernel
theorem dX7_greatest_27 : decode cX7_greatest 27 = .ok (.ishl, 1) := by decide +kernel
theorem dX7_greatest_28 : decode cX7_greatest 28 = .ok (.ior, 1) := by decide +kernel
theorem dX7_greatest_29 : decode cX7_greatest 29 = .ok (.istore 4, 2) := by decide +kernel
theorem dX7_greatest_31 : decode cX7_greatest 31 = .ok (.iload_n 1, 1) := by decide +kernel
theorem dX7_greatest_32 : decode cX7_greatest 32 = .ok (.bipush 10, 2) := by decide +kernel
theorem dX7_greatest_34 : decode cX7_greatest 34 = .ok (.invokestatic 28, 3) := by decide +kernel
theorem dX7_greatest_37 : decode cX7_greatest 37 = .ok (.iload 4, 2) := by decide +kernel
theorem dX7_greatest_39 : decode cX7_greatest 39 = .ok (.iconst (-1), 1) := by decide +kernel
theorem dX7_greatest_40 : decode cX7_greatest 40 = .ok (.ixor, 1) := by decide +kernel
theorem dX7_greatest_41 : decode cX7_greatest 41 = .ok (.iand, 1) := by decide +kernel
theorem dX7_greatest_42 : decode cX7_greatest 42 = .ok (.istore 5, 2) := by decide +kernel
theorem dX7_greatest_44 : decode cX7_greatest 44 = .ok (.iconst 1, 1) := by decide +kernel
theorem dX7_greatest_45 : decode cX7_greatest 45 = .ok (.iload 5, 2) := by decide +kernel
theorem dX7_greatest_47 : decode cX7_greatest 47 = .ok (.invokestatic 32, 3) := by decide +kernel
theorem dX7_greatest_50 : decode cX7_greatest 50 = .ok (.ishl, 1) := by decide +kernel
theorem dX7_greatest_51 : decode cX7_greatest 51 = .ok (.istore 6, 2) := by decide +kernel
theorem dX7_greatest_53 : decode cX7_greatest 53 = .ok (.iconst 0, 1) := by decide +kernel
theorem dX7_greatest_54 : decode cX7_greatest 54 = .ok (.istore 7, 2) := by decide +kernel
theorem dX7_greatest_56 : decode cX7_greatest 56 = .ok (.iconst 0, 1) := by decide +kernel
theorem dX7_greatest_57 : decode cX7_greatest 57 = .ok (.istore 8, 2) := by decide +kernel
theorem dX7_greatest_59 : decode cX7_greatest 59 = .ok (.iconst 0, 1) := by decide +kernel
theorem dX7_greatest_60 : decode cX7_greatest 60 = .ok (.istore 9, 2) := by decide +kernel
theorem dX7_greatest_62 : decode cX7_greatest 62 = .ok (.iconst 1, 1) := by decide +kernel
theorem dX7_greatest_63 : decode cX7_greatest 63 = .ok (.istore 10, 2) := by decide +kernel
theorem dX7_greatest_65 : decode cX7_greatest 65 = .ok (.iload 10, 2) := by decide +kernel
theorem dX7_greatest_67 : decode cX7_greatest 67 = .ok (.iload 6, 2) := by decide +kernel
theorem dX7_greatest_69 : decode cX7_greatest 69 = .ok (.if_icmp .ge 54, 3) := by decide +kernel
theorem dX7_greatest_72 : decode cX7_greatest 72 = .ok (.iload 9, 2) := by decide +kernel
theorem dX7_greatest_74 : decode cX7_greatest 74 = .ok (.iload 5, 2) := by decide +kernel
theorem dX7_greatest_76 : decode cX7_greatest 76 = .ok (.isub, 1) := by decide +kernel
theorem dX7_greatest_77 : decode cX7_greatest 77 = .ok (.iload 5, 2) := by decide +kernel
theorem dX7_greatest_79 : decode cX7_greatest 79 = .ok (.iand, 1) := by decide +kernel
theorem dX7_greatest_80 : decode cX7_greatest 80 = .ok (.istore 9, 2) := by decide +kernel
theorem dX7_greatest_82 : decode cX7_greatest 82 = .ok (.iload 9, 2) := by decide +kernel
theorem dX7_greatest_84 : decode cX7_greatest 84 = .ok (.invokestatic 32, 3) := by decide +kernel
theorem dX7_greatest_87 : decode cX7_greatest 87 = .ok (.istore 11, 2) := by decide +kernel
theorem dX7_greatest_89 : decode cX7_greatest 89 = .ok (.iload 11, 2) := by decide +kernel
theorem dX7_greatest_91 : decode cX7_greatest 91 = .ok (.iload 8, 2) := by decide +kernel
theorem dX7_greatest_93 : decode cX7_greatest 93 = .ok (.if_icmp .le 24, 3) := by decide +kernel
theorem dX7_greatest_96 : decode cX7_greatest 96 = .ok (.aload_n 0, 1) := by decide +kernel
theorem dX7_greatest_97 : decode cX7_greatest 97 = .ok (.iload_n 3, 1) := by decide +kernel
theorem dX7_greatest_98 : decode cX7_greatest 98 = .ok (.iload 9, 2) := by decide +kernel
theorem dX7_greatest_100 : decode cX7_greatest 100 = .ok (.iconst (-1), 1) := by decide +kernel
theorem dX7_greatest_101 : decode cX7_greatest 101 = .ok (.ixor, 1) := by decide +kernel
theorem dX7_greatest_102 : decode cX7_greatest 102 = .ok (.iand, 1) := by decide +kernel
theorem dX7_greatest_103 : decode cX7_greatest 103 = .ok (.invokestatic 22, 3) := by decide +kernel
theorem dX7_greatest_106 : decode cX7_greatest 106 = .ok (.ifCond .eq 11, 3) := by decide +kernel
theorem dX7_greatest_109 : decode cX7_greatest 109 = .ok (.iload 9, 2) := by decide +kernel
theorem dX7_greatest_111 : decode cX7_greatest 111 = .ok (.istore 7, 2) := by decide +kernel
theorem dX7_greatest_113 : decode cX7_greatest 113 = .ok (.iload 11, 2) := by decide +kernel
theorem dX7_greatest_115 : decode cX7_greatest 115 = .ok (.istore 8, 2) := by decide +kernel
theorem dX7_greatest_117 : decode cX7_greatest 117 = .ok (.iinc 10 1, 3) := by decide +kernel
theorem dX7_greatest_120 : decode cX7_greatest 120 = .ok (.goto (-55), 3) := by decide +kernel
theorem dX7_greatest_123 : decode cX7_greatest 123 = .ok (.iload 7, 2) := by decide +kernel
theorem dX7_greatest_125 : decode cX7_greatest 125 = .ok (.ireturn, 1) := by decide +kernel
set_option maxRecDepth 20000 in
theorem kb_68_0 : ∀ q ∈ tb_68_0, s_atx 68 yX7_greatest cX7_greatest q.1 q.2 := (List.forall_mem_cons.mpr ⟨⟨s_ldAn dX7_greatest_0 rfl, s_mo_ldA _ _⟩, (List.forall_mem_cons.mpr ⟨⟨s_getf (ci := 0) (k := 3) rfl (by decide) inX0 w_66 dX7_greatest_1, s_mo_getf _ _ _⟩, (List.forall_mem_cons.mpr ⟨⟨s_ldIn dX7_greatest_4 rfl, s_mo_ldI _ _⟩, (List.forall_mem_cons.mpr ⟨⟨s_iconst dX7_greatest_5 (by decide +kernel), s_mo_push _ _⟩, (List.forall_mem_cons.mpr ⟨⟨s_ixor dX7_greatest_6, s_mo_bin _ _⟩, (List.forall_mem_cons.mpr ⟨⟨s_iand dX7_greatest_7, s_mo_bin _ _⟩, (List.forall_mem_cons.mpr ⟨⟨s_stIn dX7_greatest_8 rfl, s_mo_stI _ _⟩, (List.forall_mem_cons.mpr ⟨⟨s_ldAn dX7_greatest_9 rfl, s_mo_ldA _ _⟩, (List.forall_mem_cons.mpr ⟨⟨s_ldIn dX7_greatest_10 rfl, s_mo_ldI _ _⟩, (List.forall_mem_cons.mpr ⟨⟨s_sS mk_68 mk_67 ok_67 (by decide +kernel) dX7_greatest_11 w_417 w_404, s_h0 mk_68⟩, (List.forall_mem_cons.mpr ⟨⟨s_ifne dX7_greatest_14 (by decide), s_mo_ifne _ _⟩, (List.forall_mem_cons.mpr ⟨⟨s_iconst dX7_greatest_17 (by decide +kernel), s_mo_push _ _⟩, (List.forall_mem_cons.mpr ⟨s_r1 mk_68 dX7_greatest_18, (List.forall_mem_cons.mpr ⟨⟨s_iconst dX7_greatest_19 (by decide +kernel), s_mo_push _ _⟩, (List.forall_mem_cons.mpr ⟨⟨s_iconst dX7_greatest_20 (by decide +kernel), s_mo_push _ _⟩, (List.forall_mem_cons.mpr ⟨⟨s_ldAn dX7_greatest_21 rfl, s_mo_ldA _ _⟩, (List.forall_mem_cons.mpr ⟨⟨s_getf (ci := 0) (k := 2) rfl (by decide) inX0 w_56 dX7_greatest_22, s_mo_getf _ _ _⟩, (List.forall_mem_cons.mpr ⟨⟨s_iconst dX7_greatest_25 (by decide +kernel), s_mo_push _ _⟩, (List.forall_mem_cons.mpr ⟨⟨s_isub dX7_greatest_26, s_mo_bin _ _⟩, (List.forall_mem_cons.mpr ⟨⟨s_ishl dX7_greatest_27, s_mo_bin _ _⟩, (List.forall_mem_cons.mpr ⟨⟨s_ior dX7_greatest_28, s_mo_bin _ _⟩, (List.forall_mem_cons.mpr ⟨⟨s_stI dX7_greatest_29, s_mo_stI _ _⟩, (List.forall_mem_cons.mpr ⟨⟨s_ldIn dX7_greatest_31 rfl, s_mo_ldI _ _⟩, (List.forall_mem_cons.mpr ⟨⟨s_bipush dX7_greatest_32 (by decide +kernel), s_mo_push _ _⟩, (List.forall_mem_cons.mpr ⟨⟨s_sS mk_68 mk_69 ok_69 (by decide +kernel) dX7_greatest_34 w_418 w_419, s_h0 mk_68⟩, (List.forall_mem_cons.mpr ⟨⟨s_ldI dX7_greatest_37, s_mo_ldI _ _⟩, (List.forall_mem_cons.mpr ⟨⟨s_iconst dX7_greatest_39 (by decide +kernel), s_mo_push _ _⟩, (List.forall_mem_cons.mpr ⟨⟨s_ixor dX7_greatest_40, s_mo_bin _ _⟩, (List.forall_mem_cons.mpr ⟨⟨s_iand dX7_greatest_41, s_mo_bin _ _⟩, (List.forall_mem_cons.mpr ⟨⟨s_stI dX7_greatest_42, s_mo_stI _ _⟩, (List.forall_mem_cons.mpr ⟨⟨s_iconst dX7_greatest_44 (by decide +kernel), s_mo_push _ _⟩, (List.forall_mem_cons.mpr ⟨⟨s_ldI dX7_greatest_45, s_mo_ldI _ _⟩, (List.forall_mem_cons.mpr ⟨⟨s_sS mk_68 mk_254 ok_254 (by decide +kernel) dX7_greatest_47 w_421 w_422, s_h0 mk_68⟩, (List.forall_mem_cons.mpr ⟨⟨s_ishl dX7_greatest_50, s_mo_bin _ _⟩, (List.forall_mem_cons.mpr ⟨⟨s_stI dX7_greatest_51, s_mo_stI _ _⟩, (List.forall_mem_cons.mpr ⟨⟨s_iconst dX7_greatest_53 (by decide +kernel), s_mo_push _ _⟩, (List.forall_mem_cons.mpr ⟨⟨s_stI dX7_greatest_54, s_mo_stI _ _⟩, (List.forall_mem_cons.mpr ⟨⟨s_iconst dX7_greatest_56 (by decide +kernel), s_mo_push _ _⟩, (List.forall_mem_cons.mpr ⟨⟨s_stI dX7_greatest_57, s_mo_stI _ _⟩, (List.forall_mem_cons.mpr ⟨⟨s_iconst dX7_greatest_59 (by decide +kernel), s_mo_push _ _⟩, (List.forall_mem_cons.mpr ⟨⟨s_stI dX7_greatest_60, s_mo_stI _ _⟩, (List.forall_mem_cons.mpr ⟨⟨s_iconst dX7_greatest_62 (by decide +kernel), s_mo_push _ _⟩, (List.forall_mem_cons.mpr ⟨⟨s_stI dX7_greatest_63, s_mo_stI _ _⟩, (fun _ h => absurd h List.not_mem_nil)⟩)⟩)⟩)⟩)⟩)⟩)⟩)⟩)⟩)⟩)⟩)⟩)⟩)⟩)⟩)⟩)⟩)⟩)⟩)⟩)⟩)⟩)⟩)⟩)⟩)⟩)⟩)⟩)⟩)⟩)⟩)⟩)⟩)⟩)⟩)⟩)⟩)⟩)⟩)⟩)⟩)⟩)⟩)
set_option maxRecDepth 20000 in
theorem kb_68_1 : ∀ q ∈ tb_68_1, s_atx 68 yX7_greatest cX7_greatest q.1 q.2 := (List.forall_mem_cons.mpr ⟨⟨s_ldI dX7_greatest_65, s_mo_ldI _ _⟩, (List.forall_mem_cons.mpr ⟨⟨s_ldI dX7_greatest_67, s_mo_ldI _ _⟩, (List.forall_mem_cons.mpr ⟨⟨s_icge dX7_greatest_69 (by decide), s_mo_icge _ _⟩, (List.forall_mem_cons.mpr ⟨⟨s_ldI dX7_greatest_72, s_mo_ldI _ _⟩, (List.forall_mem_cons.mpr ⟨⟨s_ldI dX7_greatest_74, s_mo_ldI _ _⟩, (List.forall_mem_cons.mpr ⟨⟨s_isub dX7_greatest_76, s_mo_bin _ _⟩, (List.forall_mem_cons.mpr ⟨⟨s_ldI dX7_greatest_77, s_mo_ldI _ _⟩, (List.forall_mem_cons.mpr ⟨⟨s_iand dX7_greatest_79, s_mo_bin _ _⟩, (List.forall_mem_cons.mpr ⟨⟨s_stI dX7_greatest_80, s_mo_stI _ _⟩, (List.forall_mem_cons.mpr ⟨⟨s_ldI dX7_greatest_82, s_mo_ldI _ _⟩, (List.forall_mem_cons.mpr ⟨⟨s_sS mk_68 mk_254 ok_254 (by decide +kernel) dX7_greatest_84 w_421 w_422, s_h0 mk_68⟩, (List.forall_mem_cons.mpr ⟨⟨s_stI dX7_greatest_87, s_mo_stI _ _⟩, (List.forall_mem_cons.mpr ⟨⟨s_ldI dX7_greatest_89, s_mo_ldI _ _⟩, (List.forall_mem_cons.mpr ⟨⟨s_ldI dX7_greatest_91, s_mo_ldI _ _⟩, (List.forall_mem_cons.mpr ⟨⟨s_icle dX7_greatest_93 (by decide), s_mo_icle _ _⟩, (List.forall_mem_cons.mpr ⟨⟨s_ldAn dX7_greatest_96 rfl, s_mo_ldA _ _⟩, (List.forall_mem_cons.mpr ⟨⟨s_ldIn dX7_greatest_97 rfl, s_mo_ldI _ _⟩, (List.forall_mem_cons.mpr ⟨⟨s_ldI dX7_greatest_98, s_mo_ldI _ _⟩, (List.forall_mem_cons.mpr ⟨⟨s_iconst dX7_greatest_100 (by decide +kernel), s_mo_push _ _⟩, (List.forall_mem_cons.mpr ⟨⟨s_ixor dX7_greatest_101, s_mo_bin _ _⟩, (List.forall_mem_cons.mpr ⟨⟨s_iand dX7_greatest_102, s_mo_bin _ _⟩, (List.forall_mem_cons.mpr ⟨⟨s_sS mk_68 mk_67 ok_67 (by decide +kernel) dX7_greatest_103 w_417 w_404, s_h0 mk_68⟩, (List.forall_mem_cons.mpr ⟨⟨s_ifeq dX7_greatest_106 (by decide), s_mo_ifeq _ _⟩, (List.forall_mem_cons.mpr ⟨⟨s_ldI dX7_greatest_109, s_mo_ldI _ _⟩, (List.forall_mem_cons.mpr ⟨⟨s_stI dX7_greatest_111, s_mo_stI _ _⟩, (List.forall_mem_cons.mpr ⟨⟨s_ldI dX7_greatest_113, s_mo_ldI _ _⟩, (List.forall_mem_cons.mpr ⟨⟨s_stI dX7_greatest_115, s_mo_stI _ _⟩, (List.forall_mem_cons.mpr ⟨⟨s_inc dX7_greatest_117 (by decide +kernel), s_mo_inc _ _ _⟩, (List.forall_mem_cons.mpr ⟨⟨s_goto dX7_greatest_120 (by decide), s_mo_goto _⟩, (List.forall_mem_cons.mpr ⟨⟨s_ldI dX7_greatest_123, s_mo_ldI _ _⟩, (List.forall_mem_cons.mpr ⟨s_r1 mk_68 dX7_greatest_125, (fun _ h => absurd h List.not_mem_nil)⟩)⟩)⟩)⟩)⟩)⟩)⟩)⟩)⟩)⟩)⟩)⟩)⟩)⟩)⟩)⟩)⟩)⟩)⟩)⟩)⟩)⟩)⟩)⟩)⟩)⟩)⟩)⟩)⟩)⟩)⟩)
theorem km_68 : ∀ t ∈ tm_68, s_tok 68 t := (List.forall_mem_cons.mpr ⟨s_lift mk_68 kb_68_0, (List.forall_mem_cons.mpr ⟨s_lift mk_68 kb_68_1, (fun _ h => absurd h List.not_mem_nil)⟩)⟩)
theorem dX7_firstOf_0 : decode cX7_firstOf 0 = .ok (.iload_n 0, 1) := by decide +kernel
theorem dX7_firstOf_1 : decode cX7_firstOf 1 = .ok (.istore_n 2, 1) := by decide +kernel
theorem dX7_firstOf_2 : decode cX7_firstOf 2 = .ok (.iconst 0, 1) := by decide +kernel
theorem dX7_firstOf_3 : decode cX7_firstOf 3 = .ok (.istore_n 3, 1) := by decide +kernel
theorem dX7_firstOf_4 : decode cX7_firstOf 4 = .ok (.iload_n 3, 1) := by decide +kernel
theorem dX7_firstOf_5 : decode cX7_firstOf 5 = .ok (.iload_n 1, 1) := by decide +kernel
theorem dX7_firstOf_6 : decode cX7_firstOf 6 = .ok (.if_icmp .ge 15, 3) := by decide +kernel
theorem dX7_firstOf_9 : decode cX7_firstOf 9 = .ok (.iload_n 2, 1) := by decide +kernel
theorem dX7_firstOf_10 : decode cX7_firstOf 10 = .ok (.iload_n 2, 1) := by decide +kernel
theorem dX7_firstOf_11 : decode cX7_firstOf 11 = .ok (.iconst 1, 1) := by decide +kernel
theorem dX7_firstOf_12 : decode cX7_firstOf 12 = .ok (.isub, 1) := by decide +kernel
theorem dX7_firstOf_13 : decode cX7_firstOf 13 = .ok (.iand, 1) := by decide +kernel
theorem dX7_firstOf_14 : decode cX7_firstOf 14 = .ok (.istore_n 2, 1) := by decide +kernel
theorem dX7_firstOf_15 : decode cX7_firstOf 15 = .ok (.iinc 3 1, 3) := by decide +kernel
theorem dX7_firstOf_18 : decode cX7_firstOf 18 = .ok (.goto (-14), 3) := by decide +kernel
theorem dX7_firstOf_21 : decode cX7_firstOf 21 = .ok (.iload_n 0, 1) := by decide +kernel
theorem dX7_firstOf_22 : decode cX7_firstOf 22 = .ok (.iload_n 2, 1) := by decide +kernel
theorem dX7_firstOf_23 : decode cX7_firstOf 23 = .ok (.iconst (-1), 1) := by decide +kernel
theorem dX7_firstOf_24 : decode cX7_firstOf 24 = .ok (.ixor, 1) := by decide +kernel
theorem dX7_firstOf_25 : decode cX7_firstOf 25 = .ok (.iand, 1) := by decide +kernel
theorem dX7_firstOf_26 : decode cX7_firstOf 26 = .ok (.ireturn, 1) := by decide +kernel
set_option maxRecDepth 20000 in
theorem kb_69_0 : ∀ q ∈ tb_69_0, s_atx 69 yX7_firstOf cX7_firstOf q.1 q.2 := (List.forall_mem_cons.mpr ⟨⟨s_ldIn dX7_firstOf_0 rfl, s_mo_ldI _ _⟩, (List.forall_mem_cons.mpr ⟨⟨s_stIn dX7_firstOf_1 rfl, s_mo_stI _ _⟩, (List.forall_mem_cons.mpr ⟨⟨s_iconst dX7_firstOf_2 (by decide +kernel), s_mo_push _ _⟩, (List.forall_mem_cons.mpr ⟨⟨s_stIn dX7_firstOf_3 rfl, s_mo_stI _ _⟩, (List.forall_mem_cons.mpr ⟨⟨s_ldIn dX7_firstOf_4 rfl, s_mo_ldI _ _⟩, (List.forall_mem_cons.mpr ⟨⟨s_ldIn dX7_firstOf_5 rfl, s_mo_ldI _ _⟩, (List.forall_mem_cons.mpr ⟨⟨s_icge dX7_firstOf_6 (by decide), s_mo_icge _ _⟩, (List.forall_mem_cons.mpr ⟨⟨s_ldIn dX7_firstOf_9 rfl, s_mo_ldI _ _⟩, (List.forall_mem_cons.mpr ⟨⟨s_ldIn dX7_firstOf_10 rfl, s_mo_ldI _ _⟩, (List.forall_mem_cons.mpr ⟨⟨s_iconst dX7_firstOf_11 (by decide +kernel), s_mo_push _ _⟩, (List.forall_mem_cons.mpr ⟨⟨s_isub dX7_firstOf_12, s_mo_bin _ _⟩, (List.forall_mem_cons.mpr ⟨⟨s_iand dX7_firstOf_13, s_mo_bin _ _⟩, (List.forall_mem_cons.mpr ⟨⟨s_stIn dX7_firstOf_14 rfl, s_mo_stI _ _⟩, (List.forall_mem_cons.mpr ⟨⟨s_inc dX7_firstOf_15 (by decide +kernel), s_mo_inc _ _ _⟩, (List.forall_mem_cons.mpr ⟨⟨s_goto dX7_firstOf_18 (by decide), s_mo_goto _⟩, (List.forall_mem_cons.mpr ⟨⟨s_ldIn dX7_firstOf_21 rfl, s_mo_ldI _ _⟩, (List.forall_mem_cons.mpr ⟨⟨s_ldIn dX7_firstOf_22 rfl, s_mo_ldI _ _⟩, (List.forall_mem_cons.mpr ⟨⟨s_iconst dX7_firstOf_23 (by decide +kernel), s_mo_push _ _⟩, (List.forall_mem_cons.mpr ⟨⟨s_ixor dX7_firstOf_24, s_mo_bin _ _⟩, (List.forall_mem_cons.mpr ⟨⟨s_iand dX7_firstOf_25, s_mo_bin _ _⟩, (List.forall_mem_cons.mpr ⟨s_r1 mk_69 dX7_firstOf_26, (fun _ h => absurd h List.not_mem_nil)⟩)⟩)⟩)⟩)⟩)⟩)⟩)⟩)⟩)⟩)⟩)⟩)⟩)⟩)⟩)⟩)⟩)⟩)⟩)⟩)⟩)
theorem km_69 : ∀ t ∈ tm_69, s_tok 69 t := (List.forall_mem_cons.mpr ⟨s_lift mk_69 kb_69_0, (fun _ h => absurd h List.not_mem_nil)⟩)
theorem dX7_countRounds_0 : decode cX7_countRounds 0 = .ok (.aload_n 0, 1) := by decide +kernel
theorem dX7_countRounds_1 : decode cX7_countRounds 1 = .ok (.iconst 1, 1) := by decide +kernel
theorem dX7_countRounds_2 : decode cX7_countRounds 2 = .ok (.invokevirtual 37, 3) := by decide +kernel
theorem dX7_countRounds_5 : decode cX7_countRounds 5 = .ok (.istore_n 1, 1) := by decide +kernel
theorem dX7_countRounds_6 : decode cX7_countRounds 6 = .ok (.aload_n 0, 1) := by decide +kernel
theorem dX7_countRounds_7 : decode cX7_countRounds 7 = .ok (.iconst 3, 1) := by decide +kernel
theorem dX7_countRounds_8 : decode cX7_countRounds 8 = .ok (.invokevirtual 37, 3) := by decide +kernel
theorem dX7_countRounds_11 : decode cX7_countRounds 11 = .ok (.istore_n 2, 1) := by decide +kernel
theorem dX7_countRounds_12 : decode cX7_countRounds 12 = .ok (.iconst 0, 1) := by decide +kernel
theorem dX7_countRounds_13 : decode cX7_countRounds 13 = .ok (.istore_n 3, 1) := by decide +kernel
theorem dX7_countRounds_14 : decode cX7_countRounds 14 = .ok (.iload_n 3, 1) := by decide +kernel
theorem dX7_countRounds_15 : decode cX7_countRounds 15 = .ok (.bipush 30, 2) := by decide +kernel
theorem dX7_countRounds_17 : decode cX7_countRounds 17 = .ok (.if_icmp .ge 38, 3) := by decide +kernel
theorem dX7_countRounds_20 : decode cX7_countRounds 20 = .ok (.aload_n 0, 1) := by decide +kernel
theorem dX7_countRounds_21 : decode cX7_countRounds 21 = .ok (.iload_n 1, 1) := by decide +kernel
theorem dX7_countRounds_22 : decode cX7_countRounds 22 = .ok (.iload_n 2, 1) := by decide +kernel
theorem dX7_countRounds_23 : decode cX7_countRounds 23 = .ok (.invokestatic 40, 3) := by decide +kernel
theorem dX7_countRounds_26 : decode cX7_countRounds 26 = .ok (.istore 4, 2) := by decide +kernel
theorem dX7_countRounds_28 : decode cX7_countRounds 28 = .ok (.iload 4, 2) := by decide +kernel
theorem dX7_countRounds_30 : decode cX7_countRounds 30 = .ok (.ifCond .ne 5, 3) := by decide +kernel
theorem dX7_countRounds_33 : decode cX7_countRounds 33 = .ok (.iload_n 3, 1) := by decide +kernel
theorem dX7_countRounds_34 : decode cX7_countRounds 34 = .ok (.ireturn, 1) := by decide +kernel
theorem dX7_countRounds_35 : decode cX7_countRounds 35 = .ok (.iload_n 1, 1) := by decide +kernel
theorem dX7_countRounds_36 : decode cX7_countRounds 36 = .ok (.iload 4, 2) := by decide +kernel
theorem dX7_countRounds_38 : decode cX7_countRounds 38 = .ok (.iconst (-1), 1) := by decide +kernel
theorem dX7_countRounds_39 : decode cX7_countRounds 39 = .ok (.ixor, 1) := by decide +kernel
theorem dX7_countRounds_40 : decode cX7_countRounds 40 = .ok (.iand, 1) := by decide +kernel
theorem dX7_countRounds_41 : decode cX7_countRounds 41 = .ok (.istore_n 1, 1) := by decide +kernel
theorem dX7_countRounds_42 : decode cX7_countRounds 42 = .ok (.iload_n 2, 1) := by decide +kernel
theorem dX7_countRounds_43 : decode cX7_countRounds 43 = .ok (.iload 4, 2) := by decide +kernel
theorem dX7_countRounds_45 : decode cX7_countRounds 45 = .ok (.iconst (-1), 1) := by decide +kernel
theorem dX7_countRounds_46 : decode cX7_countRounds 46 = .ok (.ixor, 1) := by decide +kernel
theorem dX7_countRounds_47 : decode cX7_countRounds 47 = .ok (.iand, 1) := by decide +kernel
theorem dX7_countRounds_48 : decode cX7_countRounds 48 = .ok (.istore_n 2, 1) := by decide +kernel
theorem dX7_countRounds_49 : decode cX7_countRounds 49 = .ok (.iinc 3 1, 3) := by decide +kernel
theorem dX7_countRounds_52 : decode cX7_countRounds 52 = .ok (.goto (-38), 3) := by decide +kernel
theorem dX7_countRounds_55 : decode cX7_countRounds 55 = .ok (.bipush 30, 2) := by decide +kernel
theorem dX7_countRounds_57 : decode cX7_countRounds 57 = .ok (.ireturn, 1) := by decide +kernel
set_option maxRecDepth 20000 in
theorem kb_70_0 : ∀ q ∈ tb_70_0, s_atx 70 yX7_countRounds cX7_countRounds q.1 q.2 := (List.forall_mem_cons.mpr ⟨⟨s_ldAn dX7_countRounds_0 rfl, s_mo_ldA _ _⟩, (List.forall_mem_cons.mpr ⟨⟨s_iconst dX7_countRounds_1 (by decide +kernel), s_mo_push _ _⟩, (List.forall_mem_cons.mpr ⟨⟨s_sV mk_70 mk_5 ok_5 (by decide +kernel) dX7_countRounds_2 w_446 w_400 w_401 (Or.inr ⟨0, _, _, rfl, rfl⟩), s_h0 mk_70⟩, (List.forall_mem_cons.mpr ⟨⟨s_stIn dX7_countRounds_5 rfl, s_mo_stI _ _⟩, (List.forall_mem_cons.mpr ⟨⟨s_ldAn dX7_countRounds_6 rfl, s_mo_ldA _ _⟩, (List.forall_mem_cons.mpr ⟨⟨s_iconst dX7_countRounds_7 (by decide +kernel), s_mo_push _ _⟩, (List.forall_mem_cons.mpr ⟨⟨s_sV mk_70 mk_5 ok_5 (by decide +kernel) dX7_countRounds_8 w_446 w_400 w_401 (Or.inr ⟨0, _, _, rfl, rfl⟩), s_h0 mk_70⟩, (List.forall_mem_cons.mpr ⟨⟨s_stIn dX7_countRounds_11 rfl, s_mo_stI _ _⟩, (List.forall_mem_cons.mpr ⟨⟨s_iconst dX7_countRounds_12 (by decide +kernel), s_mo_push _ _⟩, (List.forall_mem_cons.mpr ⟨⟨s_stIn dX7_countRounds_13 rfl, s_mo_stI _ _⟩, (List.forall_mem_cons.mpr ⟨⟨s_ldIn dX7_countRounds_14 rfl, s_mo_ldI _ _⟩, (List.forall_mem_cons.mpr ⟨⟨s_bipush dX7_countRounds_15 (by decide +kernel), s_mo_push _ _⟩, (List.forall_mem_cons.mpr ⟨⟨s_icge dX7_countRounds_17 (by decide), s_mo_icge _ _⟩, (List.forall_mem_cons.mpr ⟨⟨s_ldAn dX7_countRounds_20 rfl, s_mo_ldA _ _⟩, (List.forall_mem_cons.mpr ⟨⟨s_ldIn dX7_countRounds_21 rfl, s_mo_ldI _ _⟩, (List.forall_mem_cons.mpr ⟨⟨s_ldIn dX7_countRounds_22 rfl, s_mo_ldI _ _⟩, (List.forall_mem_cons.mpr ⟨⟨s_sS mk_70 mk_68 ok_68 (by decide +kernel) dX7_countRounds_23 w_447 w_415, s_h0 mk_70⟩, (List.forall_mem_cons.mpr ⟨⟨s_stI dX7_countRounds_26, s_mo_stI _ _⟩, (List.forall_mem_cons.mpr ⟨⟨s_ldI dX7_countRounds_28, s_mo_ldI _ _⟩, (List.forall_mem_cons.mpr ⟨⟨s_ifne dX7_countRounds_30 (by decide), s_mo_ifne _ _⟩, (List.forall_mem_cons.mpr ⟨⟨s_ldIn dX7_countRounds_33 rfl, s_mo_ldI _ _⟩, (List.forall_mem_cons.mpr ⟨s_r1 mk_70 dX7_countRounds_34, (List.forall_mem_cons.mpr ⟨⟨s_ldIn dX7_countRounds_35 rfl, s_mo_ldI _ _⟩, (List.forall_mem_cons.mpr ⟨⟨s_ldI dX7_countRounds_36, s_mo_ldI _ _⟩, (List.forall_mem_cons.mpr ⟨⟨s_iconst dX7_countRounds_38 (by decide +kernel), s_mo_push _ _⟩, (List.forall_mem_cons.mpr ⟨⟨s_ixor dX7_countRounds_39, s_mo_bin _ _⟩, (List.forall_mem_cons.mpr ⟨⟨s_iand dX7_countRounds_40, s_mo_bin _ _⟩, (List.forall_mem_cons.mpr ⟨⟨s_stIn dX7_countRounds_41 rfl, s_mo_stI _ _⟩, (List.forall_mem_cons.mpr ⟨⟨s_ldIn dX7_countRounds_42 rfl, s_mo_ldI _ _⟩, (List.forall_mem_cons.mpr ⟨⟨s_ldI dX7_countRounds_43, s_mo_ldI _ _⟩, (List.forall_mem_cons.mpr ⟨⟨s_iconst dX7_countRounds_45 (by decide +kernel), s_mo_push _ _⟩, (List.forall_mem_cons.mpr ⟨⟨s_ixor dX7_countRounds_46, s_mo_bin _ _⟩, (List.forall_mem_cons.mpr ⟨⟨s_iand dX7_countRounds_47, s_mo_bin _ _⟩, (List.forall_mem_cons.mpr ⟨⟨s_stIn dX7_countRounds_48 rfl, s_mo_stI _ _⟩, (List.forall_mem_cons.mpr ⟨⟨s_inc dX7_countRounds_49 (by decide +kernel), s_mo_inc _ _ _⟩, (List.forall_mem_cons.mpr ⟨⟨s_goto dX7_countRounds_52 (by decide), s_mo_goto _⟩, (List.forall_mem_cons.mpr ⟨⟨s_bipush dX7_countRounds_55 (by decide +kernel), s_mo_push _ _⟩, (List.forall_mem_cons.mpr ⟨s_r1 mk_70 dX7_countRounds_57, (fun _ h => absurd h List.not_mem_nil)⟩)⟩)⟩)⟩)⟩)⟩)⟩)⟩)⟩)⟩)⟩)⟩)⟩)⟩)⟩)⟩)⟩)⟩)⟩)⟩)⟩)⟩)⟩)⟩)⟩)⟩)⟩)⟩)⟩)⟩)⟩)⟩)⟩)⟩)⟩)⟩)⟩)⟩)
theorem km_70 : ∀ t ∈ tm_70, s_tok 70 t := (List.forall_mem_cons.mpr ⟨s_lift mk_70 kb_70_0, (fun _ h => absurd h List.not_mem_nil)⟩)
theorem dX8_init_0 : decode cX8_init 0 = .ok (.aload_n 0, 1) := by decide +kernel
theorem dX8_init_1 : decode cX8_init 1 = .ok (.invokespecial 3, 3) := by decide +kernel
theorem dX8_init_4 : decode cX8_init 4 = .ok (.aload_n 0, 1) := by decide +kernel
theorem dX8_init_5 : decode cX8_init 5 = .ok (.iconst 0, 1) := by decide +kernel
theorem dX8_init_6 : decode cX8_init 6 = .ok (.putfield 9, 3) := by decide +kernel
theorem dX8_init_9 : decode cX8_init 9 = .ok (.aload_n 0, 1) := by decide +kernel
theorem dX8_init_10 : decode cX8_init 10 = .ok (.iconst 0, 1) := by decide +kernel
theorem dX8_init_11 : decode cX8_init 11 = .ok (.putfield 15, 3) := by decide +kernel
theorem dX8_init_14 : decode cX8_init 14 = .ok (.aload_n 0, 1) := by decide +kernel
theorem dX8_init_15 : decode cX8_init 15 = .ok (.sipush 360, 3) := by decide +kernel
theorem dX8_init_18 : decode cX8_init 18 = .ok (.newarray .int, 2) := by decide +kernel
theorem dX8_init_20 : decode cX8_init 20 = .ok (.putfield 18, 3) := by decide +kernel
theorem dX8_init_23 : decode cX8_init 23 = .ok (.aload_n 0, 1) := by decide +kernel
theorem dX8_init_24 : decode cX8_init 24 = .ok (.sipush 360, 3) := by decide +kernel
theorem dX8_init_27 : decode cX8_init 27 = .ok (.newarray .int, 2) := by decide +kernel
theorem dX8_init_29 : decode cX8_init 29 = .ok (.putfield 22, 3) := by decide +kernel
theorem dX8_init_32 : decode cX8_init 32 = .ok (.aload_n 0, 1) := by decide +kernel
theorem dX8_init_33 : decode cX8_init 33 = .ok (.sipush 360, 3) := by decide +kernel
theorem dX8_init_36 : decode cX8_init 36 = .ok (.newarray .int, 2) := by decide +kernel
theorem dX8_init_38 : decode cX8_init 38 = .ok (.putfield 25, 3) := by decide +kernel
theorem dX8_init_41 : decode cX8_init 41 = .ok (.return_, 1) := by decide +kernel
set_option maxRecDepth 20000 in
theorem kb_71_0 : ∀ q ∈ tb_71_0, s_atx 71 yX8_init cX8_init q.1 q.2 := (List.forall_mem_cons.mpr ⟨⟨s_ldAn dX8_init_0 rfl, s_mo_ldA _ _⟩, (List.forall_mem_cons.mpr ⟨⟨s_oinit w_221 w_oi w_oc dX8_init_1, s_mo_oinit _⟩, (List.forall_mem_cons.mpr ⟨⟨s_ldAn dX8_init_4 rfl, s_mo_ldA _ _⟩, (List.forall_mem_cons.mpr ⟨⟨s_iconst dX8_init_5 (by decide +kernel), s_mo_push _ _⟩, (List.forall_mem_cons.mpr ⟨⟨s_putI (ci := 4) (k := 0) rfl (by decide) inX8 tyX8_ok nmX8 rfl rfl w_222 dX8_init_6, s_mo_putI _ _ _⟩, (List.forall_mem_cons.mpr ⟨⟨s_ldAn dX8_init_9 rfl, s_mo_ldA _ _⟩, (List.forall_mem_cons.mpr ⟨⟨s_iconst dX8_init_10 (by decide +kernel), s_mo_push _ _⟩, (List.forall_mem_cons.mpr ⟨⟨s_putI (ci := 4) (k := 1) rfl (by decide) inX8 tyX8_ok nmX8 rfl rfl w_224 dX8_init_11, s_mo_putI _ _ _⟩, (List.forall_mem_cons.mpr ⟨⟨s_ldAn dX8_init_14 rfl, s_mo_ldA _ _⟩, (List.forall_mem_cons.mpr ⟨⟨s_sipush dX8_init_15 (by decide +kernel), s_mo_push _ _⟩, (List.forall_mem_cons.mpr ⟨⟨s_newa (t := 0) (aty := .int) (ty := .int) (by decide) rfl (fun _ => rfl) (fun _ _ h => h) (by decide) (fun _ _ => ⟨_, rfl, rfl⟩) w_arr0 dX8_init_18, s_mo_newa _ _⟩, (List.forall_mem_cons.mpr ⟨⟨s_putAF (ci := 4) (k := 2) rfl (by decide) inX8 tyX8_ok nmX8 rfl rfl rfl (fun _ => rfl) (fun _ => rfl) w_225 dX8_init_20, s_mo_putA _ _ _⟩, (List.forall_mem_cons.mpr ⟨⟨s_ldAn dX8_init_23 rfl, s_mo_ldA _ _⟩, (List.forall_mem_cons.mpr ⟨⟨s_sipush dX8_init_24 (by decide +kernel), s_mo_push _ _⟩, (List.forall_mem_cons.mpr ⟨⟨s_newa (t := 0) (aty := .int) (ty := .int) (by decide) rfl (fun _ => rfl) (fun _ _ h => h) (by decide) (fun _ _ => ⟨_, rfl, rfl⟩) w_arr0 dX8_init_27, s_mo_newa _ _⟩, (List.forall_mem_cons.mpr ⟨⟨s_putAF (ci := 4) (k := 3) rfl (by decide) inX8 tyX8_ok nmX8 rfl rfl rfl (fun _ => rfl) (fun _ => rfl) w_226 dX8_init_29, s_mo_putA _ _ _⟩, (List.forall_mem_cons.mpr ⟨⟨s_ldAn dX8_init_32 rfl, s_mo_ldA _ _⟩, (List.forall_mem_cons.mpr ⟨⟨s_sipush dX8_init_33 (by decide +kernel), s_mo_push _ _⟩, (List.forall_mem_cons.mpr ⟨⟨s_newa (t := 0) (aty := .int) (ty := .int) (by decide) rfl (fun _ => rfl) (fun _ _ h => h) (by decide) (fun _ _ => ⟨_, rfl, rfl⟩) w_arr0 dX8_init_36, s_mo_newa _ _⟩, (List.forall_mem_cons.mpr ⟨⟨s_putAF (ci := 4) (k := 4) rfl (by decide) inX8 tyX8_ok nmX8 rfl rfl rfl (fun _ => rfl) (fun _ => rfl) w_227 dX8_init_38, s_mo_putA _ _ _⟩, (List.forall_mem_cons.mpr ⟨s_r0 mk_71 dX8_init_41, (fun _ h => absurd h List.not_mem_nil)⟩)⟩)⟩)⟩)⟩)⟩)⟩)⟩)⟩)⟩)⟩)⟩)⟩)⟩)⟩)⟩)⟩)⟩)⟩)⟩)⟩)
theorem km_71 : ∀ t ∈ tm_71, s_tok 71 t := (List.forall_mem_cons.mpr ⟨s_lift mk_71 kb_71_0, (fun _ h => absurd h List.not_mem_nil)⟩)
theorem dX8_forget_0 : decode cX8_forget 0 = .ok (.aload_n 0, 1) := by decide +kernel
theorem dX8_forget_1 : decode cX8_forget 1 = .ok (.iconst 0, 1) := by decide +kernel
theorem dX8_forget_2 : decode cX8_forget 2 = .ok (.putfield 9, 3) := by decide +kernel
theorem dX8_forget_5 : decode cX8_forget 5 = .ok (.return_, 1) := by decide +kernel
set_option maxRecDepth 20000 in
theorem kb_72_0 : ∀ q ∈ tb_72_0, s_atx 72 yX8_forget cX8_forget q.1 q.2 := (List.forall_mem_cons.mpr ⟨⟨s_ldAn dX8_forget_0 rfl, s_mo_ldA _ _⟩, (List.forall_mem_cons.mpr ⟨⟨s_iconst dX8_forget_1 (by decide +kernel), s_mo_push _ _⟩, (List.forall_mem_cons.mpr ⟨⟨s_putI (ci := 4) (k := 0) rfl (by decide) inX8 tyX8_ok nmX8 rfl rfl w_222 dX8_forget_2, s_mo_putI _ _ _⟩, (List.forall_mem_cons.mpr ⟨s_r0 mk_72 dX8_forget_5, (fun _ h => absurd h List.not_mem_nil)⟩)⟩)⟩)⟩)
theorem km_72 : ∀ t ∈ tm_72, s_tok 72 t := (List.forall_mem_cons.mpr ⟨s_lift mk_72 kb_72_0, (fun _ h => absurd h List.not_mem_nil)⟩)
theorem dX8_remember_0 : decode cX8_remember 0 = .ok (.aload_n 0, 1) := by decide +kernel
theorem dX8_remember_1 : decode cX8_remember 1 = .ok (.aload_n 0, 1) := by decide +kernel
theorem dX8_remember_2 : decode cX8_remember 2 = .ok (.getfield 15, 3) := by decide +kernel
theorem dX8_remember_5 : decode cX8_remember 5 = .ok (.iconst 1, 1) := by decide +kernel
theorem dX8_remember_6 : decode cX8_remember 6 = .ok (.iadd, 1) := by decide +kernel
theorem dX8_remember_7 : decode cX8_remember 7 = .ok (.bipush 12, 2) := by decide +kernel
theorem dX8_remember_9 : decode cX8_remember 9 = .ok (.irem, 1) := by decide +kernel
theorem dX8_remember_10 : decode cX8_remember 10 = .ok (.putfield 15, 3) := by decide +kernel
theorem dX8_remember_13 : decode cX8_remember 13 = .ok (.aload_n 0, 1) := by decide +kernel
theorem dX8_remember_14 : decode cX8_remember 14 = .ok (.aload_n 0, 1) := by decide +kernel
theorem dX8_remember_15 : decode cX8_remember 15 = .ok (.getfield 9, 3) := by decide +kernel
theorem dX8_remember_18 : decode cX8_remember 18 = .ok (.iconst 1, 1) := by decide +kernel
theorem dX8_remember_19 : decode cX8_remember 19 = .ok (.iadd, 1) := by decide +kernel
theorem dX8_remember_20 : decode cX8_remember 20 = .ok (.bipush 12, 2) := by decide +kernel
theorem dX8_remember_22 : decode cX8_remember 22 = .ok (.invokestatic 28, 3) := by decide +kernel
theorem dX8_remember_25 : decode cX8_remember 25 = .ok (.putfield 9, 3) := by decide +kernel
theorem dX8_remember_28 : decode cX8_remember 28 = .ok (.bipush 30, 2) := by decide +kernel
theorem dX8_remember_30 : decode cX8_remember 30 = .ok (.aload_n 0, 1) := by decide +kernel
theorem dX8_remember_31 : decode cX8_remember 31 = .ok (.getfield 15, 3) := by decide +kernel
theorem dX8_remember_34 : decode cX8_remember 34 = .ok (.imul, 1) := by decide +kernel
theorem dX8_remember_35 : decode cX8_remember 35 = .ok (.istore_n 2, 1) := by decide +kernel
theorem dX8_remember_36 : decode cX8_remember 36 = .ok (.aload_n 1, 1) := by decide +kernel
theorem dX8_remember_37 : decode cX8_remember 37 = .ok (.getfield 34, 3) := by decide +kernel
theorem dX8_remember_40 : decode cX8_remember 40 = .ok (.iconst 0, 1) := by decide +kernel
theorem dX8_remember_41 : decode cX8_remember 41 = .ok (.aload_n 0, 1) := by decide +kernel
theorem dX8_remember_42 : decode cX8_remember 42 = .ok (.getfield 18, 3) := by decide +kernel
theorem dX8_remember_45 : decode cX8_remember 45 = .ok (.iload_n 2, 1) := by decide +kernel
theorem dX8_remember_46 : decode cX8_remember 46 = .ok (.bipush 30, 2) := by decide +kernel
theorem dX8_remember_48 : decode cX8_remember 48 = .ok (.invokestatic 37, 3) := by decide +kernel
theorem dX8_remember_51 : decode cX8_remember 51 = .ok (.aload_n 1, 1) := by decide +kernel
theorem dX8_remember_52 : decode cX8_remember 52 = .ok (.getfield 43, 3) := by decide +kernel
theorem dX8_remember_55 : decode cX8_remember 55 = .ok (.iconst 0, 1) := by decide +kernel
theorem dX8_remember_56 : decode cX8_remember 56 = .ok (.aload_n 0, 1) := by decide +kernel
theorem dX8_remember_57 : decode cX8_remember 57 = .ok (.getfield 22, 3) := by decide +kernel
theorem dX8_remember_60 : decode cX8_remember 60 = .ok (.iload_n 2, 1) := by decide +kernel
theorem dX8_remember_61 : decode cX8_remember 61 = .ok (.bipush 30, 2) := by decide +kernel
theorem dX8_remember_63 : decode cX8_remember 63 = .ok (.invokestatic 37, 3) := by decide +kernel
theorem dX8_remember_66 : decode cX8_remember 66 = .ok (.aload_n 1, 1) := by decide +kernel
theorem dX8_remember_67 : decode cX8_remember 67 = .ok (.getfield 44, 3) := by decide +kernel
theorem dX8_remember_70 : decode cX8_remember 70 = .ok (.iconst 0, 1) := by decide +kernel
theorem dX8_remember_71 : decode cX8_remember 71 = .ok (.aload_n 0, 1) := by decide +kernel
theorem dX8_remember_72 : decode cX8_remember 72 = .ok (.getfield 25, 3) := by decide +kernel
theorem dX8_remember_75 : decode cX8_remember 75 = .ok (.iload_n 2, 1) := by decide +kernel
theorem dX8_remember_76 : decode cX8_remember 76 = .ok (.bipush 30, 2) := by decide +kernel
theorem dX8_remember_78 : decode cX8_remember 78 = .ok (.invokestatic 37, 3) := by decide +kernel
theorem dX8_remember_81 : decode cX8_remember 81 = .ok (.return_, 1) := by decide +kernel
set_option maxRecDepth 20000 in
theorem kb_73_0 : ∀ q ∈ tb_73_0, s_atx 73 yX8_remember cX8_remember q.1 q.2 := (List.forall_mem_cons.mpr ⟨⟨s_ldAn dX8_remember_0 rfl, s_mo_ldA _ _⟩, (List.forall_mem_cons.mpr ⟨⟨s_ldAn dX8_remember_1 rfl, s_mo_ldA _ _⟩, (List.forall_mem_cons.mpr ⟨⟨s_getf (ci := 4) (k := 1) rfl (by decide) inX8 w_224 dX8_remember_2, s_mo_getf _ _ _⟩, (List.forall_mem_cons.mpr ⟨⟨s_iconst dX8_remember_5 (by decide +kernel), s_mo_push _ _⟩, (List.forall_mem_cons.mpr ⟨⟨s_iadd dX8_remember_6, s_mo_bin _ _⟩, (List.forall_mem_cons.mpr ⟨⟨s_bipush dX8_remember_7 (by decide +kernel), s_mo_push _ _⟩, (List.forall_mem_cons.mpr ⟨⟨s_irem dX8_remember_9, s_mo_rem _⟩, (List.forall_mem_cons.mpr ⟨⟨s_putI (ci := 4) (k := 1) rfl (by decide) inX8 tyX8_ok nmX8 rfl rfl w_224 dX8_remember_10, s_mo_putI _ _ _⟩, (List.forall_mem_cons.mpr ⟨⟨s_ldAn dX8_remember_13 rfl, s_mo_ldA _ _⟩, (List.forall_mem_cons.mpr ⟨⟨s_ldAn dX8_remember_14 rfl, s_mo_ldA _ _⟩, (List.forall_mem_cons.mpr ⟨⟨s_getf (ci := 4) (k := 0) rfl (by decide) inX8 w_222 dX8_remember_15, s_mo_getf _ _ _⟩, (List.forall_mem_cons.mpr ⟨⟨s_iconst dX8_remember_18 (by decide +kernel), s_mo_push _ _⟩, (List.forall_mem_cons.mpr ⟨⟨s_iadd dX8_remember_19, s_mo_bin _ _⟩, (List.forall_mem_cons.mpr ⟨⟨s_bipush dX8_remember_20 (by decide +kernel), s_mo_push _ _⟩, (List.forall_mem_cons.mpr ⟨⟨s_mn w_435 ws_mn w_mi wc_mn dX8_remember_22, s_mo_mn _⟩, (List.forall_mem_cons.mpr ⟨⟨s_putI (ci := 4) (k := 0) rfl (by decide) inX8 tyX8_ok nmX8 rfl rfl w_222 dX8_remember_25, s_mo_putI _ _ _⟩, (List.forall_mem_cons.mpr ⟨⟨s_bipush dX8_remember_28 (by decide +kernel), s_mo_push _ _⟩, (List.forall_mem_cons.mpr ⟨⟨s_ldAn dX8_remember_30 rfl, s_mo_ldA _ _⟩, (List.forall_mem_cons.mpr ⟨⟨s_getf (ci := 4) (k := 1) rfl (by decide) inX8 w_224 dX8_remember_31, s_mo_getf _ _ _⟩, (List.forall_mem_cons.mpr ⟨⟨s_imul dX8_remember_34, s_mo_bin _ _⟩, (List.forall_mem_cons.mpr ⟨⟨s_stIn dX8_remember_35 rfl, s_mo_stI _ _⟩, (List.forall_mem_cons.mpr ⟨⟨s_ldAn dX8_remember_36 rfl, s_mo_ldA _ _⟩, (List.forall_mem_cons.mpr ⟨⟨s_getf (ci := 0) (k := 7) rfl (by decide) inX0 w_79 dX8_remember_37, s_mo_getf _ _ _⟩, (List.forall_mem_cons.mpr ⟨⟨s_iconst dX8_remember_40 (by decide +kernel), s_mo_push _ _⟩, (List.forall_mem_cons.mpr ⟨⟨s_ldAn dX8_remember_41 rfl, s_mo_ldA _ _⟩, (List.forall_mem_cons.mpr ⟨⟨s_getf (ci := 4) (k := 2) rfl (by decide) inX8 w_225 dX8_remember_42, s_mo_getf _ _ _⟩, (List.forall_mem_cons.mpr ⟨⟨s_ldIn dX8_remember_45 rfl, s_mo_ldI _ _⟩, (List.forall_mem_cons.mpr ⟨⟨s_bipush dX8_remember_46 (by decide +kernel), s_mo_push _ _⟩, (List.forall_mem_cons.mpr ⟨⟨s_copy w_436 w_an w_as w_ai dX8_remember_48, s_mo_copy _⟩, (List.forall_mem_cons.mpr ⟨⟨s_ldAn dX8_remember_51 rfl, s_mo_ldA _ _⟩, (List.forall_mem_cons.mpr ⟨⟨s_getf (ci := 0) (k := 8) rfl (by decide) inX0 w_84 dX8_remember_52, s_mo_getf _ _ _⟩, (List.forall_mem_cons.mpr ⟨⟨s_iconst dX8_remember_55 (by decide +kernel), s_mo_push _ _⟩, (List.forall_mem_cons.mpr ⟨⟨s_ldAn dX8_remember_56 rfl, s_mo_ldA _ _⟩, (List.forall_mem_cons.mpr ⟨⟨s_getf (ci := 4) (k := 3) rfl (by decide) inX8 w_226 dX8_remember_57, s_mo_getf _ _ _⟩, (List.forall_mem_cons.mpr ⟨⟨s_ldIn dX8_remember_60 rfl, s_mo_ldI _ _⟩, (List.forall_mem_cons.mpr ⟨⟨s_bipush dX8_remember_61 (by decide +kernel), s_mo_push _ _⟩, (List.forall_mem_cons.mpr ⟨⟨s_copy w_436 w_an w_as w_ai dX8_remember_63, s_mo_copy _⟩, (fun _ h => absurd h List.not_mem_nil)⟩)⟩)⟩)⟩)⟩)⟩)⟩)⟩)⟩)⟩)⟩)⟩)⟩)⟩)⟩)⟩)⟩)⟩)⟩)⟩)⟩)⟩)⟩)⟩)⟩)⟩)⟩)⟩)⟩)⟩)⟩)⟩)⟩)⟩)⟩)⟩)⟩)
set_option maxRecDepth 20000 in
theorem kb_73_1 : ∀ q ∈ tb_73_1, s_atx 73 yX8_remember cX8_remember q.1 q.2 := (List.forall_mem_cons.mpr ⟨⟨s_ldAn dX8_remember_66 rfl, s_mo_ldA _ _⟩, (List.forall_mem_cons.mpr ⟨⟨s_getf (ci := 0) (k := 9) rfl (by decide) inX0 w_92 dX8_remember_67, s_mo_getf _ _ _⟩, (List.forall_mem_cons.mpr ⟨⟨s_iconst dX8_remember_70 (by decide +kernel), s_mo_push _ _⟩, (List.forall_mem_cons.mpr ⟨⟨s_ldAn dX8_remember_71 rfl, s_mo_ldA _ _⟩, (List.forall_mem_cons.mpr ⟨⟨s_getf (ci := 4) (k := 4) rfl (by decide) inX8 w_227 dX8_remember_72, s_mo_getf _ _ _⟩, (List.forall_mem_cons.mpr ⟨⟨s_ldIn dX8_remember_75 rfl, s_mo_ldI _ _⟩, (List.forall_mem_cons.mpr ⟨⟨s_bipush dX8_remember_76 (by decide +kernel), s_mo_push _ _⟩, (List.forall_mem_cons.mpr ⟨⟨s_copy w_436 w_an w_as w_ai dX8_remember_78, s_mo_copy _⟩, (List.forall_mem_cons.mpr ⟨s_r0 mk_73 dX8_remember_81, (fun _ h => absurd h List.not_mem_nil)⟩)⟩)⟩)⟩)⟩)⟩)⟩)⟩)⟩)
theorem km_73 : ∀ t ∈ tm_73, s_tok 73 t := (List.forall_mem_cons.mpr ⟨s_lift mk_73 kb_73_0, (List.forall_mem_cons.mpr ⟨s_lift mk_73 kb_73_1, (fun _ h => absurd h List.not_mem_nil)⟩)⟩)
theorem dX8_giveBack_0 : decode cX8_giveBack 0 = .ok (.aload_n 0, 1) := by decide +kernel
theorem dX8_giveBack_1 : decode cX8_giveBack 1 = .ok (.getfield 9, 3) := by decide +kernel
theorem dX8_giveBack_4 : decode cX8_giveBack 4 = .ok (.ifCond .ne 5, 3) := by decide +kernel
theorem dX8_giveBack_7 : decode cX8_giveBack 7 = .ok (.iconst 0, 1) := by decide +kernel
theorem dX8_giveBack_8 : decode cX8_giveBack 8 = .ok (.ireturn, 1) := by decide +kernel
theorem dX8_giveBack_9 : decode cX8_giveBack 9 = .ok (.bipush 30, 2) := by decide +kernel
theorem dX8_giveBack_11 : decode cX8_giveBack 11 = .ok (.aload_n 0, 1) := by decide +kernel
theorem dX8_giveBack_12 : decode cX8_giveBack 12 = .ok (.getfield 15, 3) := by decide +kernel
theorem dX8_giveBack_15 : decode cX8_giveBack 15 = .ok (.imul, 1) := by decide +kernel
theorem dX8_giveBack_16 : decode cX8_giveBack 16 = .ok (.istore_n 2, 1) := by decide +kernel
theorem dX8_giveBack_17 : decode cX8_giveBack 17 = .ok (.aload_n 0, 1) := by decide +kernel
theorem dX8_giveBack_18 : decode cX8_giveBack 18 = .ok (.getfield 18, 3) := by decide +kernel
theorem dX8_giveBack_21 : decode cX8_giveBack 21 = .ok (.iload_n 2, 1) := by decide +kernel
theorem dX8_giveBack_22 : decode cX8_giveBack 22 = .ok (.aload_n 1, 1) := by decide +kernel
theorem dX8_giveBack_23 : decode cX8_giveBack 23 = .ok (.getfield 34, 3) := by decide +kernel
theorem dX8_giveBack_26 : decode cX8_giveBack 26 = .ok (.iconst 0, 1) := by decide +kernel
theorem dX8_giveBack_27 : decode cX8_giveBack 27 = .ok (.bipush 30, 2) := by decide +kernel
theorem dX8_giveBack_29 : decode cX8_giveBack 29 = .ok (.invokestatic 37, 3) := by decide +kernel
theorem dX8_giveBack_32 : decode cX8_giveBack 32 = .ok (.aload_n 0, 1) := by decide +kernel
theorem dX8_giveBack_33 : decode cX8_giveBack 33 = .ok (.getfield 22, 3) := by decide +kernel
theorem dX8_giveBack_36 : decode cX8_giveBack 36 = .ok (.iload_n 2, 1) := by decide +kernel
theorem dX8_giveBack_37 : decode cX8_giveBack 37 = .ok (.aload_n 1, 1) := by decide +kernel
theorem dX8_giveBack_38 : decode cX8_giveBack 38 = .ok (.getfield 43, 3) := by decide +kernel
theorem dX8_giveBack_41 : decode cX8_giveBack 41 = .ok (.iconst 0, 1) := by decide +kernel
theorem dX8_giveBack_42 : decode cX8_giveBack 42 = .ok (.bipush 30, 2) := by decide +kernel
theorem dX8_giveBack_44 : decode cX8_giveBack 44 = .ok (.invokestatic 37, 3) := by decide +kernel
theorem dX8_giveBack_47 : decode cX8_giveBack 47 = .ok (.aload_n 0, 1) := by decide +kernel
theorem dX8_giveBack_48 : decode cX8_giveBack 48 = .ok (.getfield 25, 3) := by decide +kernel
theorem dX8_giveBack_51 : decode cX8_giveBack 51 = .ok (.iload_n 2, 1) := by decide +kernel
theorem dX8_giveBack_52 : decode cX8_giveBack 52 = .ok (.aload_n 1, 1) := by decide +kernel
theorem dX8_giveBack_53 : decode cX8_giveBack 53 = .ok (.getfield 44, 3) := by decide +kernel
theorem dX8_giveBack_56 : decode cX8_giveBack 56 = .ok (.iconst 0, 1) := by decide +kernel
theorem dX8_giveBack_57 : decode cX8_giveBack 57 = .ok (.bipush 30, 2) := by decide +kernel
theorem dX8_giveBack_59 : decode cX8_giveBack 59 = .ok (.invokestatic 37, 3) := by decide +kernel
theorem dX8_giveBack_62 : decode cX8_giveBack 62 = .ok (.aload_n 0, 1) := by decide +kernel
theorem dX8_giveBack_63 : decode cX8_giveBack 63 = .ok (.aload_n 0, 1) := by decide +kernel
theorem dX8_giveBack_64 : decode cX8_giveBack 64 = .ok (.getfield 15, 3) := by decide +kernel
theorem dX8_giveBack_67 : decode cX8_giveBack 67 = .ok (.bipush 12, 2) := by decide +kernel
theorem dX8_giveBack_69 : decode cX8_giveBack 69 = .ok (.iadd, 1) := by decide +kernel
theorem dX8_giveBack_70 : decode cX8_giveBack 70 = .ok (.iconst 1, 1) := by decide +kernel
theorem dX8_giveBack_71 : decode cX8_giveBack 71 = .ok (.isub, 1) := by decide +kernel
theorem dX8_giveBack_72 : decode cX8_giveBack 72 = .ok (.bipush 12, 2) := by decide +kernel
theorem dX8_giveBack_74 : decode cX8_giveBack 74 = .ok (.irem, 1) := by decide +kernel
theorem dX8_giveBack_75 : decode cX8_giveBack 75 = .ok (.putfield 15, 3) := by decide +kernel
theorem dX8_giveBack_78 : decode cX8_giveBack 78 = .ok (.aload_n 0, 1) := by decide +kernel
theorem dX8_giveBack_79 : decode cX8_giveBack 79 = .ok (.dup, 1) := by decide +kernel
theorem dX8_giveBack_80 : decode cX8_giveBack 80 = .ok (.getfield 9, 3) := by decide +kernel
theorem dX8_giveBack_83 : decode cX8_giveBack 83 = .ok (.iconst 1, 1) := by decide +kernel
theorem dX8_giveBack_84 : decode cX8_giveBack 84 = .ok (.isub, 1) := by decide +kernel
theorem dX8_giveBack_85 : decode cX8_giveBack 85 = .ok (.putfield 9, 3) := by decide +kernel
theorem dX8_giveBack_88 : decode cX8_giveBack 88 = .ok (.iconst 1, 1) := by decide +kernel
theorem dX8_giveBack_89 : decode cX8_giveBack 89 = .ok (.ireturn, 1) := by decide +kernel
set_option maxRecDepth 20000 in
theorem kb_74_0 : ∀ q ∈ tb_74_0, s_atx 74 yX8_giveBack cX8_giveBack q.1 q.2 := (List.forall_mem_cons.mpr ⟨⟨s_ldAn dX8_giveBack_0 rfl, s_mo_ldA _ _⟩, (List.forall_mem_cons.mpr ⟨⟨s_getf (ci := 4) (k := 0) rfl (by decide) inX8 w_222 dX8_giveBack_1, s_mo_getf _ _ _⟩, (List.forall_mem_cons.mpr ⟨⟨s_ifne dX8_giveBack_4 (by decide), s_mo_ifne _ _⟩, (List.forall_mem_cons.mpr ⟨⟨s_iconst dX8_giveBack_7 (by decide +kernel), s_mo_push _ _⟩, (List.forall_mem_cons.mpr ⟨s_r2 mk_74 dX8_giveBack_8, (List.forall_mem_cons.mpr ⟨⟨s_bipush dX8_giveBack_9 (by decide +kernel), s_mo_push _ _⟩, (List.forall_mem_cons.mpr ⟨⟨s_ldAn dX8_giveBack_11 rfl, s_mo_ldA _ _⟩, (List.forall_mem_cons.mpr ⟨⟨s_getf (ci := 4) (k := 1) rfl (by decide) inX8 w_224 dX8_giveBack_12, s_mo_getf _ _ _⟩, (List.forall_mem_cons.mpr ⟨⟨s_imul dX8_giveBack_15, s_mo_bin _ _⟩, (List.forall_mem_cons.mpr ⟨⟨s_stIn dX8_giveBack_16 rfl, s_mo_stI _ _⟩, (List.forall_mem_cons.mpr ⟨⟨s_ldAn dX8_giveBack_17 rfl, s_mo_ldA _ _⟩, (List.forall_mem_cons.mpr ⟨⟨s_getf (ci := 4) (k := 2) rfl (by decide) inX8 w_225 dX8_giveBack_18, s_mo_getf _ _ _⟩, (List.forall_mem_cons.mpr ⟨⟨s_ldIn dX8_giveBack_21 rfl, s_mo_ldI _ _⟩, (List.forall_mem_cons.mpr ⟨⟨s_ldAn dX8_giveBack_22 rfl, s_mo_ldA _ _⟩, (List.forall_mem_cons.mpr ⟨⟨s_getf (ci := 0) (k := 7) rfl (by decide) inX0 w_79 dX8_giveBack_23, s_mo_getf _ _ _⟩, (List.forall_mem_cons.mpr ⟨⟨s_iconst dX8_giveBack_26 (by decide +kernel), s_mo_push _ _⟩, (List.forall_mem_cons.mpr ⟨⟨s_bipush dX8_giveBack_27 (by decide +kernel), s_mo_push _ _⟩, (List.forall_mem_cons.mpr ⟨⟨s_copy w_436 w_an w_as w_ai dX8_giveBack_29, s_mo_copy _⟩, (List.forall_mem_cons.mpr ⟨⟨s_ldAn dX8_giveBack_32 rfl, s_mo_ldA _ _⟩, (List.forall_mem_cons.mpr ⟨⟨s_getf (ci := 4) (k := 3) rfl (by decide) inX8 w_226 dX8_giveBack_33, s_mo_getf _ _ _⟩, (List.forall_mem_cons.mpr ⟨⟨s_ldIn dX8_giveBack_36 rfl, s_mo_ldI _ _⟩, (List.forall_mem_cons.mpr ⟨⟨s_ldAn dX8_giveBack_37 rfl, s_mo_ldA _ _⟩, (List.forall_mem_cons.mpr ⟨⟨s_getf (ci := 0) (k := 8) rfl (by decide) inX0 w_84 dX8_giveBack_38, s_mo_getf _ _ _⟩, (List.forall_mem_cons.mpr ⟨⟨s_iconst dX8_giveBack_41 (by decide +kernel), s_mo_push _ _⟩, (List.forall_mem_cons.mpr ⟨⟨s_bipush dX8_giveBack_42 (by decide +kernel), s_mo_push _ _⟩, (List.forall_mem_cons.mpr ⟨⟨s_copy w_436 w_an w_as w_ai dX8_giveBack_44, s_mo_copy _⟩, (List.forall_mem_cons.mpr ⟨⟨s_ldAn dX8_giveBack_47 rfl, s_mo_ldA _ _⟩, (List.forall_mem_cons.mpr ⟨⟨s_getf (ci := 4) (k := 4) rfl (by decide) inX8 w_227 dX8_giveBack_48, s_mo_getf _ _ _⟩, (List.forall_mem_cons.mpr ⟨⟨s_ldIn dX8_giveBack_51 rfl, s_mo_ldI _ _⟩, (List.forall_mem_cons.mpr ⟨⟨s_ldAn dX8_giveBack_52 rfl, s_mo_ldA _ _⟩, (List.forall_mem_cons.mpr ⟨⟨s_getf (ci := 0) (k := 9) rfl (by decide) inX0 w_92 dX8_giveBack_53, s_mo_getf _ _ _⟩, (List.forall_mem_cons.mpr ⟨⟨s_iconst dX8_giveBack_56 (by decide +kernel), s_mo_push _ _⟩, (List.forall_mem_cons.mpr ⟨⟨s_bipush dX8_giveBack_57 (by decide +kernel), s_mo_push _ _⟩, (List.forall_mem_cons.mpr ⟨⟨s_copy w_436 w_an w_as w_ai dX8_giveBack_59, s_mo_copy _⟩, (List.forall_mem_cons.mpr ⟨⟨s_ldAn dX8_giveBack_62 rfl, s_mo_ldA _ _⟩, (List.forall_mem_cons.mpr ⟨⟨s_ldAn dX8_giveBack_63 rfl, s_mo_ldA _ _⟩, (fun _ h => absurd h List.not_mem_nil)⟩)⟩)⟩)⟩)⟩)⟩)⟩)⟩)⟩)⟩)⟩)⟩)⟩)⟩)⟩)⟩)⟩)⟩)⟩)⟩)⟩)⟩)⟩)⟩)⟩)⟩)⟩)⟩)⟩)⟩)⟩)⟩)⟩)⟩)⟩)⟩)
set_option maxRecDepth 20000 in
theorem kb_74_1 : ∀ q ∈ tb_74_1, s_atx 74 yX8_giveBack cX8_giveBack q.1 q.2 := (List.forall_mem_cons.mpr ⟨⟨s_getf (ci := 4) (k := 1) rfl (by decide) inX8 w_224 dX8_giveBack_64, s_mo_getf _ _ _⟩, (List.forall_mem_cons.mpr ⟨⟨s_bipush dX8_giveBack_67 (by decide +kernel), s_mo_push _ _⟩, (List.forall_mem_cons.mpr ⟨⟨s_iadd dX8_giveBack_69, s_mo_bin _ _⟩, (List.forall_mem_cons.mpr ⟨⟨s_iconst dX8_giveBack_70 (by decide +kernel), s_mo_push _ _⟩, (List.forall_mem_cons.mpr ⟨⟨s_isub dX8_giveBack_71, s_mo_bin _ _⟩, (List.forall_mem_cons.mpr ⟨⟨s_bipush dX8_giveBack_72 (by decide +kernel), s_mo_push _ _⟩, (List.forall_mem_cons.mpr ⟨⟨s_irem dX8_giveBack_74, s_mo_rem _⟩, (List.forall_mem_cons.mpr ⟨⟨s_putI (ci := 4) (k := 1) rfl (by decide) inX8 tyX8_ok nmX8 rfl rfl w_224 dX8_giveBack_75, s_mo_putI _ _ _⟩, (List.forall_mem_cons.mpr ⟨⟨s_ldAn dX8_giveBack_78 rfl, s_mo_ldA _ _⟩, (List.forall_mem_cons.mpr ⟨⟨s_dup dX8_giveBack_79, s_mo_dup _⟩, (List.forall_mem_cons.mpr ⟨⟨s_getf (ci := 4) (k := 0) rfl (by decide) inX8 w_222 dX8_giveBack_80, s_mo_getf _ _ _⟩, (List.forall_mem_cons.mpr ⟨⟨s_iconst dX8_giveBack_83 (by decide +kernel), s_mo_push _ _⟩, (List.forall_mem_cons.mpr ⟨⟨s_isub dX8_giveBack_84, s_mo_bin _ _⟩, (List.forall_mem_cons.mpr ⟨⟨s_putI (ci := 4) (k := 0) rfl (by decide) inX8 tyX8_ok nmX8 rfl rfl w_222 dX8_giveBack_85, s_mo_putI _ _ _⟩, (List.forall_mem_cons.mpr ⟨⟨s_iconst dX8_giveBack_88 (by decide +kernel), s_mo_push _ _⟩, (List.forall_mem_cons.mpr ⟨s_r2 mk_74 dX8_giveBack_89, (fun _ h => absurd h List.not_mem_nil)⟩)⟩)⟩)⟩)⟩)⟩)⟩)⟩)⟩)⟩)⟩)⟩)⟩)⟩)⟩)⟩)
theorem km_74 : ∀ t ∈ tm_74, s_tok 74 t := (List.forall_mem_cons.mpr ⟨s_lift mk_74 kb_74_0, (List.forall_mem_cons.mpr ⟨s_lift mk_74 kb_74_1, (fun _ h => absurd h List.not_mem_nil)⟩)⟩)
theorem dX9_init_0 : decode cX9_init 0 = .ok (.aload_n 0, 1) := by decide +kernel
theorem dX9_init_1 : decode cX9_init 1 = .ok (.invokespecial 3, 3) := by decide +kernel
theorem dX9_init_4 : decode cX9_init 4 = .ok (.aload_n 0, 1) := by decide +kernel
theorem dX9_init_5 : decode cX9_init 5 = .ok (.sipush 400, 3) := by decide +kernel
theorem dX9_init_8 : decode cX9_init 8 = .ok (.newarray .byte, 2) := by decide +kernel
theorem dX9_init_10 : decode cX9_init 10 = .ok (.putfield 9, 3) := by decide +kernel
theorem dX9_init_13 : decode cX9_init 13 = .ok (.aload_n 0, 1) := by decide +kernel
theorem dX9_init_14 : decode cX9_init 14 = .ok (.iconst 0, 1) := by decide +kernel
theorem dX9_init_15 : decode cX9_init 15 = .ok (.putfield 15, 3) := by decide +kernel
theorem dX9_init_18 : decode cX9_init 18 = .ok (.aload_n 0, 1) := by decide +kernel
theorem dX9_init_19 : decode cX9_init 19 = .ok (.iconst 0, 1) := by decide +kernel
theorem dX9_init_20 : decode cX9_init 20 = .ok (.putfield 19, 3) := by decide +kernel
theorem dX9_init_23 : decode cX9_init 23 = .ok (.aload_n 0, 1) := by decide +kernel
theorem dX9_init_24 : decode cX9_init 24 = .ok (.iconst 0, 1) := by decide +kernel
theorem dX9_init_25 : decode cX9_init 25 = .ok (.putfield 22, 3) := by decide +kernel
theorem dX9_init_28 : decode cX9_init 28 = .ok (.aload_n 0, 1) := by decide +kernel
theorem dX9_init_29 : decode cX9_init 29 = .ok (.iconst (-1), 1) := by decide +kernel
theorem dX9_init_30 : decode cX9_init 30 = .ok (.putfield 25, 3) := by decide +kernel
theorem dX9_init_33 : decode cX9_init 33 = .ok (.return_, 1) := by decide +kernel
set_option maxRecDepth 20000 in
theorem kb_75_0 : ∀ q ∈ tb_75_0, s_atx 75 yX9_init cX9_init q.1 q.2 := (List.forall_mem_cons.mpr ⟨⟨s_ldAn dX9_init_0 rfl, s_mo_ldA _ _⟩, (List.forall_mem_cons.mpr ⟨⟨s_oinit w_197 w_oi w_oc dX9_init_1, s_mo_oinit _⟩, (List.forall_mem_cons.mpr ⟨⟨s_ldAn dX9_init_4 rfl, s_mo_ldA _ _⟩, (List.forall_mem_cons.mpr ⟨⟨s_sipush dX9_init_5 (by decide +kernel), s_mo_push _ _⟩, (List.forall_mem_cons.mpr ⟨⟨s_newa (t := 1) (aty := .byte) (ty := .byte) (by decide) rfl (fun _ => rfl) (fun _ _ h => h) (by decide) (fun _ _ => ⟨_, rfl, rfl⟩) w_arr1 dX9_init_8, s_mo_newa _ _⟩, (List.forall_mem_cons.mpr ⟨⟨s_putAF (ci := 5) (k := 0) rfl (by decide) inX9 tyX9_ok nmX9 rfl rfl rfl (fun _ => rfl) (fun _ => rfl) w_198 dX9_init_10, s_mo_putA _ _ _⟩, (List.forall_mem_cons.mpr ⟨⟨s_ldAn dX9_init_13 rfl, s_mo_ldA _ _⟩, (List.forall_mem_cons.mpr ⟨⟨s_iconst dX9_init_14 (by decide +kernel), s_mo_push _ _⟩, (List.forall_mem_cons.mpr ⟨⟨s_putI (ci := 5) (k := 1) rfl (by decide) inX9 tyX9_ok nmX9 rfl rfl w_199 dX9_init_15, s_mo_putI _ _ _⟩, (List.forall_mem_cons.mpr ⟨⟨s_ldAn dX9_init_18 rfl, s_mo_ldA _ _⟩, (List.forall_mem_cons.mpr ⟨⟨s_iconst dX9_init_19 (by decide +kernel), s_mo_push _ _⟩, (List.forall_mem_cons.mpr ⟨⟨s_putI (ci := 5) (k := 2) rfl (by decide) inX9 tyX9_ok nmX9 rfl rfl w_201 dX9_init_20, s_mo_putI _ _ _⟩, (List.forall_mem_cons.mpr ⟨⟨s_ldAn dX9_init_23 rfl, s_mo_ldA _ _⟩, (List.forall_mem_cons.mpr ⟨⟨s_iconst dX9_init_24 (by decide +kernel), s_mo_push _ _⟩, (List.forall_mem_cons.mpr ⟨⟨s_putI (ci := 5) (k := 3) rfl (by decide) inX9 tyX9_ok nmX9 rfl rfl w_202 dX9_init_25, s_mo_putI _ _ _⟩, (List.forall_mem_cons.mpr ⟨⟨s_ldAn dX9_init_28 rfl, s_mo_ldA _ _⟩, (List.forall_mem_cons.mpr ⟨⟨s_iconst dX9_init_29 (by decide +kernel), s_mo_push _ _⟩, (List.forall_mem_cons.mpr ⟨⟨s_putI (ci := 5) (k := 4) rfl (by decide) inX9 tyX9_ok nmX9 rfl rfl w_203 dX9_init_30, s_mo_putI _ _ _⟩, (List.forall_mem_cons.mpr ⟨s_r0 mk_75 dX9_init_33, (fun _ h => absurd h List.not_mem_nil)⟩)⟩)⟩)⟩)⟩)⟩)⟩)⟩)⟩)⟩)⟩)⟩)⟩)⟩)⟩)⟩)⟩)⟩)⟩)
theorem km_75 : ∀ t ∈ tm_75, s_tok 75 t := (List.forall_mem_cons.mpr ⟨s_lift mk_75 kb_75_0, (fun _ h => absurd h List.not_mem_nil)⟩)
theorem dX9_hasRoom_0 : decode cX9_hasRoom 0 = .ok (.aload_n 0, 1) := by decide +kernel
theorem dX9_hasRoom_1 : decode cX9_hasRoom 1 = .ok (.getfield 15, 3) := by decide +kernel
theorem dX9_hasRoom_4 : decode cX9_hasRoom 4 = .ok (.iload_n 1, 1) := by decide +kernel
theorem dX9_hasRoom_5 : decode cX9_hasRoom 5 = .ok (.iadd, 1) := by decide +kernel
theorem dX9_hasRoom_6 : decode cX9_hasRoom 6 = .ok (.sipush 400, 3) := by decide +kernel
theorem dX9_hasRoom_9 : decode cX9_hasRoom 9 = .ok (.if_icmp .gt 7, 3) := by decide +kernel
theorem dX9_hasRoom_12 : decode cX9_hasRoom 12 = .ok (.iconst 1, 1) := by decide +kernel
theorem dX9_hasRoom_13 : decode cX9_hasRoom 13 = .ok (.goto 4, 3) := by decide +kernel
theorem dX9_hasRoom_16 : decode cX9_hasRoom 16 = .ok (.iconst 0, 1) := by decide +kernel
theorem dX9_hasRoom_17 : decode cX9_hasRoom 17 = .ok (.ireturn, 1) := by decide +kernel
set_option maxRecDepth 20000 in
theorem kb_76_0 : ∀ q ∈ tb_76_0, s_atx 76 yX9_hasRoom cX9_hasRoom q.1 q.2 := (List.forall_mem_cons.mpr ⟨⟨s_ldAn dX9_hasRoom_0 rfl, s_mo_ldA _ _⟩, (List.forall_mem_cons.mpr ⟨⟨s_getf (ci := 5) (k := 1) rfl (by decide) inX9 w_199 dX9_hasRoom_1, s_mo_getf _ _ _⟩, (List.forall_mem_cons.mpr ⟨⟨s_ldIn dX9_hasRoom_4 rfl, s_mo_ldI _ _⟩, (List.forall_mem_cons.mpr ⟨⟨s_iadd dX9_hasRoom_5, s_mo_bin _ _⟩, (List.forall_mem_cons.mpr ⟨⟨s_sipush dX9_hasRoom_6 (by decide +kernel), s_mo_push _ _⟩, (List.forall_mem_cons.mpr ⟨⟨s_icgt dX9_hasRoom_9 (by decide), s_mo_icgt _ _⟩, (List.forall_mem_cons.mpr ⟨⟨s_iconst dX9_hasRoom_12 (by decide +kernel), s_mo_push _ _⟩, (List.forall_mem_cons.mpr ⟨⟨s_goto dX9_hasRoom_13 (by decide), s_mo_goto _⟩, (List.forall_mem_cons.mpr ⟨⟨s_iconst dX9_hasRoom_16 (by decide +kernel), s_mo_push _ _⟩, (List.forall_mem_cons.mpr ⟨s_r2 mk_76 dX9_hasRoom_17, (fun _ h => absurd h List.not_mem_nil)⟩)⟩)⟩)⟩)⟩)⟩)⟩)⟩)⟩)⟩)
theorem km_76 : ∀ t ∈ tm_76, s_tok 76 t := (List.forall_mem_cons.mpr ⟨s_lift mk_76 kb_76_0, (fun _ h => absurd h List.not_mem_nil)⟩)
theorem dX9_put_0 : decode cX9_put 0 = .ok (.aload_n 0, 1) := by decide +kernel
theorem dX9_put_1 : decode cX9_put 1 = .ok (.iconst 4, 1) := by decide +kernel
theorem dX9_put_2 : decode cX9_put 2 = .ok (.invokevirtual 28, 3) := by decide +kernel
theorem dX9_put_5 : decode cX9_put 5 = .ok (.ifCond .ne 4, 3) := by decide +kernel
theorem dX9_put_8 : decode cX9_put 8 = .ok (.return_, 1) := by decide +kernel
theorem dX9_put_9 : decode cX9_put 9 = .ok (.bipush 24, 2) := by decide +kernel
theorem dX9_put_11 : decode cX9_put 11 = .ok (.istore_n 2, 1) := by decide +kernel
theorem dX9_put_12 : decode cX9_put 12 = .ok (.iload_n 2, 1) := by decide +kernel
theorem dX9_put_13 : decode cX9_put 13 = .ok (.ifCond .lt 32, 3) := by decide +kernel
theorem dX9_put_16 : decode cX9_put 16 = .ok (.aload_n 0, 1) := by decide +kernel
theorem dX9_put_17 : decode cX9_put 17 = .ok (.getfield 9, 3) := by decide +kernel
theorem dX9_put_20 : decode cX9_put 20 = .ok (.aload_n 0, 1) := by decide +kernel
theorem dX9_put_21 : decode cX9_put 21 = .ok (.getfield 15, 3) := by decide +kernel
theorem dX9_put_24 : decode cX9_put 24 = .ok (.iload_n 1, 1) := by decide +kernel
theorem dX9_put_25 : decode cX9_put 25 = .ok (.iload_n 2, 1) := by decide +kernel
theorem dX9_put_26 : decode cX9_put 26 = .ok (.ishr, 1) := by decide +kernel
theorem dX9_put_27 : decode cX9_put 27 = .ok (.i2b, 1) := by decide +kernel
theorem dX9_put_28 : decode cX9_put 28 = .ok (.bastore, 1) := by decide +kernel
theorem dX9_put_29 : decode cX9_put 29 = .ok (.aload_n 0, 1) := by decide +kernel
theorem dX9_put_30 : decode cX9_put 30 = .ok (.dup, 1) := by decide +kernel
theorem dX9_put_31 : decode cX9_put 31 = .ok (.getfield 15, 3) := by decide +kernel
theorem dX9_put_34 : decode cX9_put 34 = .ok (.iconst 1, 1) := by decide +kernel
theorem dX9_put_35 : decode cX9_put 35 = .ok (.iadd, 1) := by decide +kernel
theorem dX9_put_36 : decode cX9_put 36 = .ok (.putfield 15, 3) := by decide +kernel
theorem dX9_put_39 : decode cX9_put 39 = .ok (.iinc 2 (-8), 3) := by decide +kernel
theorem dX9_put_42 : decode cX9_put 42 = .ok (.goto (-30), 3) := by decide +kernel
theorem dX9_put_45 : decode cX9_put 45 = .ok (.return_, 1) := by decide +kernel
set_option maxRecDepth 20000 in
theorem kb_77_0 : ∀ q ∈ tb_77_0, s_atx 77 yX9_put cX9_put q.1 q.2 := (List.forall_mem_cons.mpr ⟨⟨s_ldAn dX9_put_0 rfl, s_mo_ldA _ _⟩, (List.forall_mem_cons.mpr ⟨⟨s_iconst dX9_put_1 (by decide +kernel), s_mo_push _ _⟩, (List.forall_mem_cons.mpr ⟨⟨s_sV mk_77 mk_76 ok_76 (by decide +kernel) dX9_put_2 w_352 w_345 w_346 (Or.inr ⟨5, _, _, rfl, rfl⟩), s_h0 mk_77⟩, (List.forall_mem_cons.mpr ⟨⟨s_ifne dX9_put_5 (by decide), s_mo_ifne _ _⟩, (List.forall_mem_cons.mpr ⟨s_r0 mk_77 dX9_put_8, (List.forall_mem_cons.mpr ⟨⟨s_bipush dX9_put_9 (by decide +kernel), s_mo_push _ _⟩, (List.forall_mem_cons.mpr ⟨⟨s_stIn dX9_put_11 rfl, s_mo_stI _ _⟩, (List.forall_mem_cons.mpr ⟨⟨s_ldIn dX9_put_12 rfl, s_mo_ldI _ _⟩, (List.forall_mem_cons.mpr ⟨⟨s_iflt dX9_put_13 (by decide), s_mo_iflt _ _⟩, (List.forall_mem_cons.mpr ⟨⟨s_ldAn dX9_put_16 rfl, s_mo_ldA _ _⟩, (List.forall_mem_cons.mpr ⟨⟨s_getf (ci := 5) (k := 0) rfl (by decide) inX9 w_198 dX9_put_17, s_mo_getf _ _ _⟩, (List.forall_mem_cons.mpr ⟨⟨s_ldAn dX9_put_20 rfl, s_mo_ldA _ _⟩, (List.forall_mem_cons.mpr ⟨⟨s_getf (ci := 5) (k := 1) rfl (by decide) inX9 w_199 dX9_put_21, s_mo_getf _ _ _⟩, (List.forall_mem_cons.mpr ⟨⟨s_ldIn dX9_put_24 rfl, s_mo_ldI _ _⟩, (List.forall_mem_cons.mpr ⟨⟨s_ldIn dX9_put_25 rfl, s_mo_ldI _ _⟩, (List.forall_mem_cons.mpr ⟨⟨s_ishr dX9_put_26, s_mo_bin _ _⟩, (List.forall_mem_cons.mpr ⟨⟨s_i2b dX9_put_27, s_mo_un _ _⟩, (List.forall_mem_cons.mpr ⟨⟨s_bast dX9_put_28, s_mo_bast _⟩, (List.forall_mem_cons.mpr ⟨⟨s_ldAn dX9_put_29 rfl, s_mo_ldA _ _⟩, (List.forall_mem_cons.mpr ⟨⟨s_dup dX9_put_30, s_mo_dup _⟩, (List.forall_mem_cons.mpr ⟨⟨s_getf (ci := 5) (k := 1) rfl (by decide) inX9 w_199 dX9_put_31, s_mo_getf _ _ _⟩, (List.forall_mem_cons.mpr ⟨⟨s_iconst dX9_put_34 (by decide +kernel), s_mo_push _ _⟩, (List.forall_mem_cons.mpr ⟨⟨s_iadd dX9_put_35, s_mo_bin _ _⟩, (List.forall_mem_cons.mpr ⟨⟨s_putI (ci := 5) (k := 1) rfl (by decide) inX9 tyX9_ok nmX9 rfl rfl w_199 dX9_put_36, s_mo_putI _ _ _⟩, (List.forall_mem_cons.mpr ⟨⟨s_inc dX9_put_39 (by decide +kernel), s_mo_inc _ _ _⟩, (List.forall_mem_cons.mpr ⟨⟨s_goto dX9_put_42 (by decide), s_mo_goto _⟩, (List.forall_mem_cons.mpr ⟨s_r0 mk_77 dX9_put_45, (fun _ h => absurd h List.not_mem_nil)⟩)⟩)⟩)⟩)⟩)⟩)⟩)⟩)⟩)⟩)⟩)⟩)⟩)⟩)⟩)⟩)⟩)⟩)⟩)⟩)⟩)⟩)⟩)⟩)⟩)⟩)⟩)
theorem km_77 : ∀ t ∈ tm_77, s_tok 77 t := (List.forall_mem_cons.mpr ⟨s_lift mk_77 kb_77_0, (fun _ h => absurd h List.not_mem_nil)⟩)
theorem dX9_open_0 : decode cX9_open 0 = .ok (.aload_n 0, 1) := by decide +kernel
theorem dX9_open_1 : decode cX9_open 1 = .ok (.iconst 0, 1) := by decide +kernel
theorem dX9_open_2 : decode cX9_open 2 = .ok (.putfield 19, 3) := by decide +kernel
theorem dX9_open_5 : decode cX9_open 5 = .ok (.aload_n 0, 1) := by decide +kernel
theorem dX9_open_6 : decode cX9_open 6 = .ok (.iconst (-1), 1) := by decide +kernel
theorem dX9_open_7 : decode cX9_open 7 = .ok (.putfield 25, 3) := by decide +kernel
theorem dX9_open_10 : decode cX9_open 10 = .ok (.return_, 1) := by decide +kernel
set_option maxRecDepth 20000 in
theorem kb_78_0 : ∀ q ∈ tb_78_0, s_atx 78 yX9_open cX9_open q.1 q.2 := (List.forall_mem_cons.mpr ⟨⟨s_ldAn dX9_open_0 rfl, s_mo_ldA _ _⟩, (List.forall_mem_cons.mpr ⟨⟨s_iconst dX9_open_1 (by decide +kernel), s_mo_push _ _⟩, (List.forall_mem_cons.mpr ⟨⟨s_putI (ci := 5) (k := 2) rfl (by decide) inX9 tyX9_ok nmX9 rfl rfl w_201 dX9_open_2, s_mo_putI _ _ _⟩, (List.forall_mem_cons.mpr ⟨⟨s_ldAn dX9_open_5 rfl, s_mo_ldA _ _⟩, (List.forall_mem_cons.mpr ⟨⟨s_iconst dX9_open_6 (by decide +kernel), s_mo_push _ _⟩, (List.forall_mem_cons.mpr ⟨⟨s_putI (ci := 5) (k := 4) rfl (by decide) inX9 tyX9_ok nmX9 rfl rfl w_203 dX9_open_7, s_mo_putI _ _ _⟩, (List.forall_mem_cons.mpr ⟨s_r0 mk_78 dX9_open_10, (fun _ h => absurd h List.not_mem_nil)⟩)⟩)⟩)⟩)⟩)⟩)⟩)
theorem km_78 : ∀ t ∈ tm_78, s_tok 78 t := (List.forall_mem_cons.mpr ⟨s_lift mk_78 kb_78_0, (fun _ h => absurd h List.not_mem_nil)⟩)
theorem dX9_close_0 : decode cX9_close 0 = .ok (.aload_n 0, 1) := by decide +kernel
theorem dX9_close_1 : decode cX9_close 1 = .ok (.iconst 0, 1) := by decide +kernel
theorem dX9_close_2 : decode cX9_close 2 = .ok (.putfield 15, 3) := by decide +kernel
theorem dX9_close_5 : decode cX9_close 5 = .ok (.aload_n 0, 1) := by decide +kernel
theorem dX9_close_6 : decode cX9_close 6 = .ok (.getfield 25, 3) := by decide +kernel
theorem dX9_close_9 : decode cX9_close 9 = .ok (.ireturn, 1) := by decide +kernel
set_option maxRecDepth 20000 in
theorem kb_79_0 : ∀ q ∈ tb_79_0, s_atx 79 yX9_close cX9_close q.1 q.2 := (List.forall_mem_cons.mpr ⟨⟨s_ldAn dX9_close_0 rfl, s_mo_ldA _ _⟩, (List.forall_mem_cons.mpr ⟨⟨s_iconst dX9_close_1 (by decide +kernel), s_mo_push _ _⟩, (List.forall_mem_cons.mpr ⟨⟨s_putI (ci := 5) (k := 1) rfl (by decide) inX9 tyX9_ok nmX9 rfl rfl w_199 dX9_close_2, s_mo_putI _ _ _⟩, (List.forall_mem_cons.mpr ⟨⟨s_ldAn dX9_close_5 rfl, s_mo_ldA _ _⟩, (List.forall_mem_cons.mpr ⟨⟨s_getf (ci := 5) (k := 4) rfl (by decide) inX9 w_203 dX9_close_6, s_mo_getf _ _ _⟩, (List.forall_mem_cons.mpr ⟨s_r1 mk_79 dX9_close_9, (fun _ h => absurd h List.not_mem_nil)⟩)⟩)⟩)⟩)⟩)⟩)
theorem km_79 : ∀ t ∈ tm_79, s_tok 79 t := (List.forall_mem_cons.mpr ⟨s_lift mk_79 kb_79_0, (fun _ h => absurd h List.not_mem_nil)⟩)
theorem dX9_isEnd_0 : decode cX9_isEnd 0 = .ok (.aload_n 0, 1) := by decide +kernel
theorem dX9_isEnd_1 : decode cX9_isEnd 1 = .ok (.invokevirtual 32, 3) := by decide +kernel
theorem dX9_isEnd_4 : decode cX9_isEnd 4 = .ok (.aload_n 0, 1) := by decide +kernel
theorem dX9_isEnd_5 : decode cX9_isEnd 5 = .ok (.getfield 19, 3) := by decide +kernel
theorem dX9_isEnd_8 : decode cX9_isEnd 8 = .ok (.aload_n 0, 1) := by decide +kernel
theorem dX9_isEnd_9 : decode cX9_isEnd 9 = .ok (.getfield 15, 3) := by decide +kernel
theorem dX9_isEnd_12 : decode cX9_isEnd 12 = .ok (.if_icmp .lt 7, 3) := by decide +kernel
theorem dX9_isEnd_15 : decode cX9_isEnd 15 = .ok (.iconst 1, 1) := by decide +kernel
theorem dX9_isEnd_16 : decode cX9_isEnd 16 = .ok (.goto 4, 3) := by decide +kernel
theorem dX9_isEnd_19 : decode cX9_isEnd 19 = .ok (.iconst 0, 1) := by decide +kernel
theorem dX9_isEnd_20 : decode cX9_isEnd 20 = .ok (.ireturn, 1) := by decide +kernel
set_option maxRecDepth 20000 in
theorem kb_80_0 : ∀ q ∈ tb_80_0, s_atx 80 yX9_isEnd cX9_isEnd q.1 q.2 := (List.forall_mem_cons.mpr ⟨⟨s_ldAn dX9_isEnd_0 rfl, s_mo_ldA _ _⟩, (List.forall_mem_cons.mpr ⟨⟨s_sV mk_80 mk_86 ok_86 (by decide +kernel) dX9_isEnd_1 w_507 w_509 wp_0 (Or.inr ⟨5, _, _, rfl, rfl⟩), s_h0 mk_80⟩, (List.forall_mem_cons.mpr ⟨⟨s_ldAn dX9_isEnd_4 rfl, s_mo_ldA _ _⟩, (List.forall_mem_cons.mpr ⟨⟨s_getf (ci := 5) (k := 2) rfl (by decide) inX9 w_201 dX9_isEnd_5, s_mo_getf _ _ _⟩, (List.forall_mem_cons.mpr ⟨⟨s_ldAn dX9_isEnd_8 rfl, s_mo_ldA _ _⟩, (List.forall_mem_cons.mpr ⟨⟨s_getf (ci := 5) (k := 1) rfl (by decide) inX9 w_199 dX9_isEnd_9, s_mo_getf _ _ _⟩, (List.forall_mem_cons.mpr ⟨⟨s_iclt dX9_isEnd_12 (by decide), s_mo_iclt _ _⟩, (List.forall_mem_cons.mpr ⟨⟨s_iconst dX9_isEnd_15 (by decide +kernel), s_mo_push _ _⟩, (List.forall_mem_cons.mpr ⟨⟨s_goto dX9_isEnd_16 (by decide), s_mo_goto _⟩, (List.forall_mem_cons.mpr ⟨⟨s_iconst dX9_isEnd_19 (by decide +kernel), s_mo_push _ _⟩, (List.forall_mem_cons.mpr ⟨s_r2 mk_80 dX9_isEnd_20, (fun _ h => absurd h List.not_mem_nil)⟩)⟩)⟩)⟩)⟩)⟩)⟩)⟩)⟩)⟩)⟩)
theorem km_80 : ∀ t ∈ tm_80, s_tok 80 t := (List.forall_mem_cons.mpr ⟨s_lift mk_80 kb_80_0, (fun _ h => absurd h List.not_mem_nil)⟩)
theorem dX9_takeSign_0 : decode cX9_takeSign 0 = .ok (.aload_n 0, 1) := by decide +kernel
theorem dX9_takeSign_1 : decode cX9_takeSign 1 = .ok (.invokevirtual 32, 3) := by decide +kernel
theorem dX9_takeSign_4 : decode cX9_takeSign 4 = .ok (.aload_n 0, 1) := by decide +kernel
theorem dX9_takeSign_5 : decode cX9_takeSign 5 = .ok (.getfield 19, 3) := by decide +kernel
theorem dX9_takeSign_8 : decode cX9_takeSign 8 = .ok (.aload_n 0, 1) := by decide +kernel
theorem dX9_takeSign_9 : decode cX9_takeSign 9 = .ok (.getfield 15, 3) := by decide +kernel
theorem dX9_takeSign_12 : decode cX9_takeSign 12 = .ok (.if_icmp .ge 16, 3) := by decide +kernel
theorem dX9_takeSign_15 : decode cX9_takeSign 15 = .ok (.aload_n 0, 1) := by decide +kernel
theorem dX9_takeSign_16 : decode cX9_takeSign 16 = .ok (.getfield 9, 3) := by decide +kernel
theorem dX9_takeSign_19 : decode cX9_takeSign 19 = .ok (.aload_n 0, 1) := by decide +kernel
theorem dX9_takeSign_20 : decode cX9_takeSign 20 = .ok (.getfield 19, 3) := by decide +kernel
theorem dX9_takeSign_23 : decode cX9_takeSign 23 = .ok (.baload, 1) := by decide +kernel
theorem dX9_takeSign_24 : decode cX9_takeSign 24 = .ok (.iload_n 1, 1) := by decide +kernel
theorem dX9_takeSign_25 : decode cX9_takeSign 25 = .ok (.if_icmp .eq 5, 3) := by decide +kernel
theorem dX9_takeSign_28 : decode cX9_takeSign 28 = .ok (.iconst 0, 1) := by decide +kernel
theorem dX9_takeSign_29 : decode cX9_takeSign 29 = .ok (.ireturn, 1) := by decide +kernel
theorem dX9_takeSign_30 : decode cX9_takeSign 30 = .ok (.aload_n 0, 1) := by decide +kernel
theorem dX9_takeSign_31 : decode cX9_takeSign 31 = .ok (.aload_n 0, 1) := by decide +kernel
theorem dX9_takeSign_32 : decode cX9_takeSign 32 = .ok (.getfield 19, 3) := by decide +kernel
theorem dX9_takeSign_35 : decode cX9_takeSign 35 = .ok (.putfield 22, 3) := by decide +kernel
theorem dX9_takeSign_38 : decode cX9_takeSign 38 = .ok (.aload_n 0, 1) := by decide +kernel
theorem dX9_takeSign_39 : decode cX9_takeSign 39 = .ok (.dup, 1) := by decide +kernel
theorem dX9_takeSign_40 : decode cX9_takeSign 40 = .ok (.getfield 19, 3) := by decide +kernel
theorem dX9_takeSign_43 : decode cX9_takeSign 43 = .ok (.iconst 1, 1) := by decide +kernel
theorem dX9_takeSign_44 : decode cX9_takeSign 44 = .ok (.iadd, 1) := by decide +kernel
theorem dX9_takeSign_45 : decode cX9_takeSign 45 = .ok (.putfield 19, 3) := by decide +kernel
theorem dX9_takeSign_48 : decode cX9_takeSign 48 = .ok (.iconst 1, 1) := by decide +kernel
theorem dX9_takeSign_49 : decode cX9_takeSign 49 = .ok (.ireturn, 1) := by decide +kernel
set_option maxRecDepth 20000 in
theorem kb_81_0 : ∀ q ∈ tb_81_0, s_atx 81 yX9_takeSign cX9_takeSign q.1 q.2 := (List.forall_mem_cons.mpr ⟨⟨s_ldAn dX9_takeSign_0 rfl, s_mo_ldA _ _⟩, (List.forall_mem_cons.mpr ⟨⟨s_sV mk_81 mk_86 ok_86 (by decide +kernel) dX9_takeSign_1 w_507 w_509 wp_0 (Or.inr ⟨5, _, _, rfl, rfl⟩), s_h0 mk_81⟩, (List.forall_mem_cons.mpr ⟨⟨s_ldAn dX9_takeSign_4 rfl, s_mo_ldA _ _⟩, (List.forall_mem_cons.mpr ⟨⟨s_getf (ci := 5) (k := 2) rfl (by decide) inX9 w_201 dX9_takeSign_5, s_mo_getf _ _ _⟩, (List.forall_mem_cons.mpr ⟨⟨s_ldAn dX9_takeSign_8 rfl, s_mo_ldA _ _⟩, (List.forall_mem_cons.mpr ⟨⟨s_getf (ci := 5) (k := 1) rfl (by decide) inX9 w_199 dX9_takeSign_9, s_mo_getf _ _ _⟩, (List.forall_mem_cons.mpr ⟨⟨s_icge dX9_takeSign_12 (by decide), s_mo_icge _ _⟩, (List.forall_mem_cons.mpr ⟨⟨s_ldAn dX9_takeSign_15 rfl, s_mo_ldA _ _⟩, (List.forall_mem_cons.mpr ⟨⟨s_getf (ci := 5) (k := 0) rfl (by decide) inX9 w_198 dX9_takeSign_16, s_mo_getf _ _ _⟩, (List.forall_mem_cons.mpr ⟨⟨s_ldAn dX9_takeSign_19 rfl, s_mo_ldA _ _⟩, (List.forall_mem_cons.mpr ⟨⟨s_getf (ci := 5) (k := 2) rfl (by decide) inX9 w_201 dX9_takeSign_20, s_mo_getf _ _ _⟩, (List.forall_mem_cons.mpr ⟨⟨s_bald dX9_takeSign_23, s_mo_bald _⟩, (List.forall_mem_cons.mpr ⟨⟨s_ldIn dX9_takeSign_24 rfl, s_mo_ldI _ _⟩, (List.forall_mem_cons.mpr ⟨⟨s_iceq dX9_takeSign_25 (by decide), s_mo_iceq _ _⟩, (List.forall_mem_cons.mpr ⟨⟨s_iconst dX9_takeSign_28 (by decide +kernel), s_mo_push _ _⟩, (List.forall_mem_cons.mpr ⟨s_r2 mk_81 dX9_takeSign_29, (List.forall_mem_cons.mpr ⟨⟨s_ldAn dX9_takeSign_30 rfl, s_mo_ldA _ _⟩, (List.forall_mem_cons.mpr ⟨⟨s_ldAn dX9_takeSign_31 rfl, s_mo_ldA _ _⟩, (List.forall_mem_cons.mpr ⟨⟨s_getf (ci := 5) (k := 2) rfl (by decide) inX9 w_201 dX9_takeSign_32, s_mo_getf _ _ _⟩, (List.forall_mem_cons.mpr ⟨⟨s_putI (ci := 5) (k := 3) rfl (by decide) inX9 tyX9_ok nmX9 rfl rfl w_202 dX9_takeSign_35, s_mo_putI _ _ _⟩, (List.forall_mem_cons.mpr ⟨⟨s_ldAn dX9_takeSign_38 rfl, s_mo_ldA _ _⟩, (List.forall_mem_cons.mpr ⟨⟨s_dup dX9_takeSign_39, s_mo_dup _⟩, (List.forall_mem_cons.mpr ⟨⟨s_getf (ci := 5) (k := 2) rfl (by decide) inX9 w_201 dX9_takeSign_40, s_mo_getf _ _ _⟩, (List.forall_mem_cons.mpr ⟨⟨s_iconst dX9_takeSign_43 (by decide +kernel), s_mo_push _ _⟩, (List.forall_mem_cons.mpr ⟨⟨s_iadd dX9_takeSign_44, s_mo_bin _ _⟩, (List.forall_mem_cons.mpr ⟨⟨s_putI (ci := 5) (k := 2) rfl (by decide) inX9 tyX9_ok nmX9 rfl rfl w_201 dX9_takeSign_45, s_mo_putI _ _ _⟩, (List.forall_mem_cons.mpr ⟨⟨s_iconst dX9_takeSign_48 (by decide +kernel), s_mo_push _ _⟩, (List.forall_mem_cons.mpr ⟨s_r2 mk_81 dX9_takeSign_49, (fun _ h => absurd h List.not_mem_nil)⟩)⟩)⟩)⟩)⟩)⟩)⟩)⟩)⟩)⟩)⟩)⟩)⟩)⟩)⟩)⟩)⟩)⟩)⟩)⟩)⟩)⟩)⟩)⟩)⟩)⟩)⟩)⟩)
theorem km_81 : ∀ t ∈ tm_81, s_tok 81 t := (List.forall_mem_cons.mpr ⟨s_lift mk_81 kb_81_0, (fun _ h => absurd h List.not_mem_nil)⟩)
theorem dX9_takeWord_0 : decode cX9_takeWord 0 = .ok (.aload_n 0, 1) := by decide +kernel
theorem dX9_takeWord_1 : decode cX9_takeWord 1 = .ok (.invokevirtual 32, 3) := by decide +kernel
theorem dX9_takeWord_4 : decode cX9_takeWord 4 = .ok (.aload_n 1, 1) := by decide +kernel
theorem dX9_takeWord_5 : decode cX9_takeWord 5 = .ok (.invokevirtual 35, 3) := by decide +kernel
theorem dX9_takeWord_8 : decode cX9_takeWord 8 = .ok (.istore_n 2, 1) := by decide +kernel
theorem dX9_takeWord_9 : decode cX9_takeWord 9 = .ok (.aload_n 0, 1) := by decide +kernel
theorem dX9_takeWord_10 : decode cX9_takeWord 10 = .ok (.getfield 19, 3) := by decide +kernel
theorem dX9_takeWord_13 : decode cX9_takeWord 13 = .ok (.iload_n 2, 1) := by decide +kernel
theorem dX9_takeWord_14 : decode cX9_takeWord 14 = .ok (.iadd, 1) := by decide +kernel
theorem dX9_takeWord_15 : decode cX9_takeWord 15 = .ok (.aload_n 0, 1) := by decide +kernel
theorem dX9_takeWord_16 : decode cX9_takeWord 16 = .ok (.getfield 15, 3) := by decide +kernel
theorem dX9_takeWord_19 : decode cX9_takeWord 19 = .ok (.if_icmp .gt 16, 3) := by decide +kernel
theorem dX9_takeWord_22 : decode cX9_takeWord 22 = .ok (.aload_n 0, 1) := by decide +kernel
theorem dX9_takeWord_23 : decode cX9_takeWord 23 = .ok (.aload_n 0, 1) := by decide +kernel
theorem dX9_takeWord_24 : decode cX9_takeWord 24 = .ok (.getfield 19, 3) := by decide +kernel
theorem dX9_takeWord_27 : decode cX9_takeWord 27 = .ok (.iload_n 2, 1) := by decide +kernel
theorem dX9_takeWord_28 : decode cX9_takeWord 28 = .ok (.iadd, 1) := by decide +kernel
theorem dX9_takeWord_29 : decode cX9_takeWord 29 = .ok (.invokevirtual 40, 3) := by decide +kernel
theorem dX9_takeWord_32 : decode cX9_takeWord 32 = .ok (.ifCond .eq 5, 3) := by decide +kernel
theorem dX9_takeWord_35 : decode cX9_takeWord 35 = .ok (.iconst 0, 1) := by decide +kernel
theorem dX9_takeWord_36 : decode cX9_takeWord 36 = .ok (.ireturn, 1) := by decide +kernel
theorem dX9_takeWord_37 : decode cX9_takeWord 37 = .ok (.iconst 0, 1) := by decide +kernel
theorem dX9_takeWord_38 : decode cX9_takeWord 38 = .ok (.istore_n 3, 1) := by decide +kernel
theorem dX9_takeWord_39 : decode cX9_takeWord 39 = .ok (.iload_n 3, 1) := by decide +kernel
theorem dX9_takeWord_40 : decode cX9_takeWord 40 = .ok (.iload_n 2, 1) := by decide +kernel
theorem dX9_takeWord_41 : decode cX9_takeWord 41 = .ok (.if_icmp .ge 30, 3) := by decide +kernel
theorem dX9_takeWord_44 : decode cX9_takeWord 44 = .ok (.aload_n 0, 1) := by decide +kernel
theorem dX9_takeWord_45 : decode cX9_takeWord 45 = .ok (.getfield 9, 3) := by decide +kernel
theorem dX9_takeWord_48 : decode cX9_takeWord 48 = .ok (.aload_n 0, 1) := by decide +kernel
theorem dX9_takeWord_49 : decode cX9_takeWord 49 = .ok (.getfield 19, 3) := by decide +kernel
theorem dX9_takeWord_52 : decode cX9_takeWord 52 = .ok (.iload_n 3, 1) := by decide +kernel
theorem dX9_takeWord_53 : decode cX9_takeWord 53 = .ok (.iadd, 1) := by decide +kernel
theorem dX9_takeWord_54 : decode cX9_takeWord 54 = .ok (.baload, 1) := by decide +kernel
theorem dX9_takeWord_55 : decode cX9_takeWord 55 = .ok (.aload_n 1, 1) := by decide +kernel
theorem dX9_takeWord_56 : decode cX9_takeWord 56 = .ok (.iload_n 3, 1) := by decide +kernel
theorem dX9_takeWord_57 : decode cX9_takeWord 57 = .ok (.invokevirtual 43, 3) := by decide +kernel
theorem dX9_takeWord_60 : decode cX9_takeWord 60 = .ok (.if_icmp .eq 5, 3) := by decide +kernel
theorem dX9_takeWord_63 : decode cX9_takeWord 63 = .ok (.iconst 0, 1) := by decide +kernel
theorem dX9_takeWord_64 : decode cX9_takeWord 64 = .ok (.ireturn, 1) := by decide +kernel
theorem dX9_takeWord_65 : decode cX9_takeWord 65 = .ok (.iinc 3 1, 3) := by decide +kernel
theorem dX9_takeWord_68 : decode cX9_takeWord 68 = .ok (.goto (-29), 3) := by decide +kernel
theorem dX9_takeWord_71 : decode cX9_takeWord 71 = .ok (.aload_n 0, 1) := by decide +kernel
theorem dX9_takeWord_72 : decode cX9_takeWord 72 = .ok (.aload_n 0, 1) := by decide +kernel
theorem dX9_takeWord_73 : decode cX9_takeWord 73 = .ok (.getfield 19, 3) := by decide +kernel
theorem dX9_takeWord_76 : decode cX9_takeWord 76 = .ok (.putfield 22, 3) := by decide +kernel
theorem dX9_takeWord_79 : decode cX9_takeWord 79 = .ok (.aload_n 0, 1) := by decide +kernel
theorem dX9_takeWord_80 : decode cX9_takeWord 80 = .ok (.dup, 1) := by decide +kernel
theorem dX9_takeWord_81 : decode cX9_takeWord 81 = .ok (.getfield 19, 3) := by decide +kernel
theorem dX9_takeWord_84 : decode cX9_takeWord 84 = .ok (.iload_n 2, 1) := by decide +kernel
theorem dX9_takeWord_85 : decode cX9_takeWord 85 = .ok (.iadd, 1) := by decide +kernel
theorem dX9_takeWord_86 : decode cX9_takeWord 86 = .ok (.putfield 19, 3) := by decide +kernel
theorem dX9_takeWord_89 : decode cX9_takeWord 89 = .ok (.iconst 1, 1) := by decide +kernel
theorem dX9_takeWord_90 : decode cX9_takeWord 90 = .ok (.ireturn, 1) := by decide +kernel
set_option maxRecDepth 20000 in
theorem kb_82_0 : ∀ q ∈ tb_82_0, s_atx 82 yX9_takeWord cX9_takeWord q.1 q.2 := (List.forall_mem_cons.mpr ⟨⟨s_ldAn dX9_takeWord_0 rfl, s_mo_ldA _ _⟩, (List.forall_mem_cons.mpr ⟨⟨s_sV mk_82 mk_86 ok_86 (by decide +kernel) dX9_takeWord_1 w_507 w_509 wp_0 (Or.inr ⟨5, _, _, rfl, rfl⟩), s_h0 mk_82⟩, (List.forall_mem_cons.mpr ⟨⟨s_ldAn dX9_takeWord_4 rfl, s_mo_ldA _ _⟩, (List.forall_mem_cons.mpr ⟨⟨s_sV mk_82 mk_255 ok_255 (by decide +kernel) dX9_takeWord_5 w_519 w_520 w_521 (Or.inl ⟨rfl, rfl⟩), s_h0 mk_82⟩, (List.forall_mem_cons.mpr ⟨⟨s_stIn dX9_takeWord_8 rfl, s_mo_stI _ _⟩, (List.forall_mem_cons.mpr ⟨⟨s_ldAn dX9_takeWord_9 rfl, s_mo_ldA _ _⟩, (List.forall_mem_cons.mpr ⟨⟨s_getf (ci := 5) (k := 2) rfl (by decide) inX9 w_201 dX9_takeWord_10, s_mo_getf _ _ _⟩, (List.forall_mem_cons.mpr ⟨⟨s_ldIn dX9_takeWord_13 rfl, s_mo_ldI _ _⟩, (List.forall_mem_cons.mpr ⟨⟨s_iadd dX9_takeWord_14, s_mo_bin _ _⟩, (List.forall_mem_cons.mpr ⟨⟨s_ldAn dX9_takeWord_15 rfl, s_mo_ldA _ _⟩, (List.forall_mem_cons.mpr ⟨⟨s_getf (ci := 5) (k := 1) rfl (by decide) inX9 w_199 dX9_takeWord_16, s_mo_getf _ _ _⟩, (List.forall_mem_cons.mpr ⟨⟨s_icgt dX9_takeWord_19 (by decide), s_mo_icgt _ _⟩, (List.forall_mem_cons.mpr ⟨⟨s_ldAn dX9_takeWord_22 rfl, s_mo_ldA _ _⟩, (List.forall_mem_cons.mpr ⟨⟨s_ldAn dX9_takeWord_23 rfl, s_mo_ldA _ _⟩, (List.forall_mem_cons.mpr ⟨⟨s_getf (ci := 5) (k := 2) rfl (by decide) inX9 w_201 dX9_takeWord_24, s_mo_getf _ _ _⟩, (List.forall_mem_cons.mpr ⟨⟨s_ldIn dX9_takeWord_27 rfl, s_mo_ldI _ _⟩, (List.forall_mem_cons.mpr ⟨⟨s_iadd dX9_takeWord_28, s_mo_bin _ _⟩, (List.forall_mem_cons.mpr ⟨⟨s_sV mk_82 mk_87 ok_87 (by decide +kernel) dX9_takeWord_29 w_529 w_531 wp_1 (Or.inr ⟨5, _, _, rfl, rfl⟩), s_h0 mk_82⟩, (List.forall_mem_cons.mpr ⟨⟨s_ifeq dX9_takeWord_32 (by decide), s_mo_ifeq _ _⟩, (List.forall_mem_cons.mpr ⟨⟨s_iconst dX9_takeWord_35 (by decide +kernel), s_mo_push _ _⟩, (List.forall_mem_cons.mpr ⟨s_r2 mk_82 dX9_takeWord_36, (List.forall_mem_cons.mpr ⟨⟨s_iconst dX9_takeWord_37 (by decide +kernel), s_mo_push _ _⟩, (List.forall_mem_cons.mpr ⟨⟨s_stIn dX9_takeWord_38 rfl, s_mo_stI _ _⟩, (List.forall_mem_cons.mpr ⟨⟨s_ldIn dX9_takeWord_39 rfl, s_mo_ldI _ _⟩, (List.forall_mem_cons.mpr ⟨⟨s_ldIn dX9_takeWord_40 rfl, s_mo_ldI _ _⟩, (List.forall_mem_cons.mpr ⟨⟨s_icge dX9_takeWord_41 (by decide), s_mo_icge _ _⟩, (List.forall_mem_cons.mpr ⟨⟨s_ldAn dX9_takeWord_44 rfl, s_mo_ldA _ _⟩, (List.forall_mem_cons.mpr ⟨⟨s_getf (ci := 5) (k := 0) rfl (by decide) inX9 w_198 dX9_takeWord_45, s_mo_getf _ _ _⟩, (List.forall_mem_cons.mpr ⟨⟨s_ldAn dX9_takeWord_48 rfl, s_mo_ldA _ _⟩, (List.forall_mem_cons.mpr ⟨⟨s_getf (ci := 5) (k := 2) rfl (by decide) inX9 w_201 dX9_takeWord_49, s_mo_getf _ _ _⟩, (List.forall_mem_cons.mpr ⟨⟨s_ldIn dX9_takeWord_52 rfl, s_mo_ldI _ _⟩, (List.forall_mem_cons.mpr ⟨⟨s_iadd dX9_takeWord_53, s_mo_bin _ _⟩, (List.forall_mem_cons.mpr ⟨⟨s_bald dX9_takeWord_54, s_mo_bald _⟩, (List.forall_mem_cons.mpr ⟨⟨s_ldAn dX9_takeWord_55 rfl, s_mo_ldA _ _⟩, (List.forall_mem_cons.mpr ⟨⟨s_ldIn dX9_takeWord_56 rfl, s_mo_ldI _ _⟩, (List.forall_mem_cons.mpr ⟨⟨s_sV mk_82 mk_256 ok_256 (by decide +kernel) dX9_takeWord_57 w_533 w_534 w_535 (Or.inl ⟨rfl, rfl⟩), s_h0 mk_82⟩, (List.forall_mem_cons.mpr ⟨⟨s_iceq dX9_takeWord_60 (by decide), s_mo_iceq _ _⟩, (List.forall_mem_cons.mpr ⟨⟨s_iconst dX9_takeWord_63 (by decide +kernel), s_mo_push _ _⟩, (fun _ h => absurd h List.not_mem_nil)⟩)⟩)⟩)⟩)⟩)⟩)⟩)⟩)⟩)⟩)⟩)⟩)⟩)⟩)⟩)⟩)⟩)⟩)⟩)⟩)⟩)⟩)⟩)⟩)⟩)⟩)⟩)⟩)⟩)⟩)⟩)⟩)⟩)⟩)⟩)⟩)⟩)⟩)
set_option maxRecDepth 20000 in
theorem kb_82_1 : ∀ q ∈ tb_82_1, s_atx 82 yX9_takeWord cX9_takeWord q.1 q.2 := (List.forall_mem_cons.mpr ⟨s_r2 mk_82 dX9_takeWord_64, (List.forall_mem_cons.mpr ⟨⟨s_inc dX9_takeWord_65 (by decide +kernel), s_mo_inc _ _ _⟩, (List.forall_mem_cons.mpr ⟨⟨s_goto dX9_takeWord_68 (by decide), s_mo_goto _⟩, (List.forall_mem_cons.mpr ⟨⟨s_ldAn dX9_takeWord_71 rfl, s_mo_ldA _ _⟩, (List.forall_mem_cons.mpr ⟨⟨s_ldAn dX9_takeWord_72 rfl, s_mo_ldA _ _⟩, (List.forall_mem_cons.mpr ⟨⟨s_getf (ci := 5) (k := 2) rfl (by decide) inX9 w_201 dX9_takeWord_73, s_mo_getf _ _ _⟩, (List.forall_mem_cons.mpr ⟨⟨s_putI (ci := 5) (k := 3) rfl (by decide) inX9 tyX9_ok nmX9 rfl rfl w_202 dX9_takeWord_76, s_mo_putI _ _ _⟩, (List.forall_mem_cons.mpr ⟨⟨s_ldAn dX9_takeWord_79 rfl, s_mo_ldA _ _⟩, (List.forall_mem_cons.mpr ⟨⟨s_dup dX9_takeWord_80, s_mo_dup _⟩, (List.forall_mem_cons.mpr ⟨⟨s_getf (ci := 5) (k := 2) rfl (by decide) inX9 w_201 dX9_takeWord_81, s_mo_getf _ _ _⟩, (List.forall_mem_cons.mpr ⟨⟨s_ldIn dX9_takeWord_84 rfl, s_mo_ldI _ _⟩, (List.forall_mem_cons.mpr ⟨⟨s_iadd dX9_takeWord_85, s_mo_bin _ _⟩, (List.forall_mem_cons.mpr ⟨⟨s_putI (ci := 5) (k := 2) rfl (by decide) inX9 tyX9_ok nmX9 rfl rfl w_201 dX9_takeWord_86, s_mo_putI _ _ _⟩, (List.forall_mem_cons.mpr ⟨⟨s_iconst dX9_takeWord_89 (by decide +kernel), s_mo_push _ _⟩, (List.forall_mem_cons.mpr ⟨s_r2 mk_82 dX9_takeWord_90, (fun _ h => absurd h List.not_mem_nil)⟩)⟩)⟩)⟩)⟩)⟩)⟩)⟩)⟩)⟩)⟩)⟩)⟩)⟩)⟩)
theorem km_82 : ∀ t ∈ tm_82, s_tok 82 t := (List.forall_mem_cons.mpr ⟨s_lift mk_82 kb_82_0, (List.forall_mem_cons.mpr ⟨s_lift mk_82 kb_82_1, (fun _ h => absurd h List.not_mem_nil)⟩)⟩)
theorem dX9_takeNumber_0 : decode cX9_takeNumber 0 = .ok (.aload_n 0, 1) := by decide +kernel
theorem dX9_takeNumber_1 : decode cX9_takeNumber 1 = .ok (.invokevirtual 32, 3) := by decide +kernel
theorem dX9_takeNumber_4 : decode cX9_takeNumber 4 = .ok (.iconst 0, 1) := by decide +kernel
theorem dX9_takeNumber_5 : decode cX9_takeNumber 5 = .ok (.istore_n 3, 1) := by decide +kernel
theorem dX9_takeNumber_6 : decode cX9_takeNumber 6 = .ok (.iconst 0, 1) := by decide +kernel
theorem dX9_takeNumber_7 : decode cX9_takeNumber 7 = .ok (.istore 4, 2) := by decide +kernel
theorem dX9_takeNumber_9 : decode cX9_takeNumber 9 = .ok (.iload 4, 2) := by decide +kernel
theorem dX9_takeNumber_11 : decode cX9_takeNumber 11 = .ok (.iconst 3, 1) := by decide +kernel
theorem dX9_takeNumber_12 : decode cX9_takeNumber 12 = .ok (.if_icmp .gt 44, 3) := by decide +kernel
theorem dX9_takeNumber_15 : decode cX9_takeNumber 15 = .ok (.aload_n 0, 1) := by decide +kernel
theorem dX9_takeNumber_16 : decode cX9_takeNumber 16 = .ok (.aload_n 0, 1) := by decide +kernel
theorem dX9_takeNumber_17 : decode cX9_takeNumber 17 = .ok (.getfield 19, 3) := by decide +kernel
theorem dX9_takeNumber_20 : decode cX9_takeNumber 20 = .ok (.iload 4, 2) := by decide +kernel
theorem dX9_takeNumber_22 : decode cX9_takeNumber 22 = .ok (.iadd, 1) := by decide +kernel
theorem dX9_takeNumber_23 : decode cX9_takeNumber 23 = .ok (.invokevirtual 47, 3) := by decide +kernel
theorem dX9_takeNumber_26 : decode cX9_takeNumber 26 = .ok (.ifCond .eq 30, 3) := by decide +kernel
theorem dX9_takeNumber_29 : decode cX9_takeNumber 29 = .ok (.bipush 10, 2) := by decide +kernel
theorem dX9_takeNumber_31 : decode cX9_takeNumber 31 = .ok (.iload_n 3, 1) := by decide +kernel
theorem dX9_takeNumber_32 : decode cX9_takeNumber 32 = .ok (.imul, 1) := by decide +kernel
theorem dX9_takeNumber_33 : decode cX9_takeNumber 33 = .ok (.aload_n 0, 1) := by decide +kernel
theorem dX9_takeNumber_34 : decode cX9_takeNumber 34 = .ok (.getfield 9, 3) := by decide +kernel
theorem dX9_takeNumber_37 : decode cX9_takeNumber 37 = .ok (.aload_n 0, 1) := by decide +kernel
theorem dX9_takeNumber_38 : decode cX9_takeNumber 38 = .ok (.getfield 19, 3) := by decide +kernel
theorem dX9_takeNumber_41 : decode cX9_takeNumber 41 = .ok (.iload 4, 2) := by decide +kernel
theorem dX9_takeNumber_43 : decode cX9_takeNumber 43 = .ok (.iadd, 1) := by decide +kernel
theorem dX9_takeNumber_44 : decode cX9_takeNumber 44 = .ok (.baload, 1) := by decide +kernel
theorem dX9_takeNumber_45 : decode cX9_takeNumber 45 = .ok (.iadd, 1) := by decide +kernel
theorem dX9_takeNumber_46 : decode cX9_takeNumber 46 = .ok (.bipush 48, 2) := by decide +kernel
theorem dX9_takeNumber_48 : decode cX9_takeNumber 48 = .ok (.isub, 1) := by decide +kernel
theorem dX9_takeNumber_49 : decode cX9_takeNumber 49 = .ok (.istore_n 3, 1) := by decide +kernel
theorem dX9_takeNumber_50 : decode cX9_takeNumber 50 = .ok (.iinc 4 1, 3) := by decide +kernel
theorem dX9_takeNumber_53 : decode cX9_takeNumber 53 = .ok (.goto (-44), 3) := by decide +kernel
theorem dX9_takeNumber_56 : decode cX9_takeNumber 56 = .ok (.iload 4, 2) := by decide +kernel
theorem dX9_takeNumber_58 : decode cX9_takeNumber 58 = .ok (.ifCond .eq 19, 3) := by decide +kernel
theorem dX9_takeNumber_61 : decode cX9_takeNumber 61 = .ok (.iload 4, 2) := by decide +kernel
theorem dX9_takeNumber_63 : decode cX9_takeNumber 63 = .ok (.iconst 3, 1) := by decide +kernel
theorem dX9_takeNumber_64 : decode cX9_takeNumber 64 = .ok (.if_icmp .gt 13, 3) := by decide +kernel
theorem dX9_takeNumber_67 : decode cX9_takeNumber 67 = .ok (.iload_n 3, 1) := by decide +kernel
theorem dX9_takeNumber_68 : decode cX9_takeNumber 68 = .ok (.iload_n 1, 1) := by decide +kernel
theorem dX9_takeNumber_69 : decode cX9_takeNumber 69 = .ok (.if_icmp .lt 8, 3) := by decide +kernel
theorem dX9_takeNumber_72 : decode cX9_takeNumber 72 = .ok (.iload_n 3, 1) := by decide +kernel
theorem dX9_takeNumber_73 : decode cX9_takeNumber 73 = .ok (.iload_n 2, 1) := by decide +kernel
theorem dX9_takeNumber_74 : decode cX9_takeNumber 74 = .ok (.if_icmp .le 13, 3) := by decide +kernel
theorem dX9_takeNumber_77 : decode cX9_takeNumber 77 = .ok (.aload_n 0, 1) := by decide +kernel
theorem dX9_takeNumber_78 : decode cX9_takeNumber 78 = .ok (.aload_n 0, 1) := by decide +kernel
theorem dX9_takeNumber_79 : decode cX9_takeNumber 79 = .ok (.getfield 19, 3) := by decide +kernel
theorem dX9_takeNumber_82 : decode cX9_takeNumber 82 = .ok (.putfield 25, 3) := by decide +kernel
theorem dX9_takeNumber_85 : decode cX9_takeNumber 85 = .ok (.iconst (-1), 1) := by decide +kernel
theorem dX9_takeNumber_86 : decode cX9_takeNumber 86 = .ok (.ireturn, 1) := by decide +kernel
theorem dX9_takeNumber_87 : decode cX9_takeNumber 87 = .ok (.aload_n 0, 1) := by decide +kernel
theorem dX9_takeNumber_88 : decode cX9_takeNumber 88 = .ok (.dup, 1) := by decide +kernel
theorem dX9_takeNumber_89 : decode cX9_takeNumber 89 = .ok (.getfield 19, 3) := by decide +kernel
theorem dX9_takeNumber_92 : decode cX9_takeNumber 92 = .ok (.iload 4, 2) := by decide +kernel
theorem dX9_takeNumber_94 : decode cX9_takeNumber 94 = .ok (.iadd, 1) := by decide +kernel
theorem dX9_takeNumber_95 : decode cX9_takeNumber 95 = .ok (.putfield 19, 3) := by decide +kernel
theorem dX9_takeNumber_98 : decode cX9_takeNumber 98 = .ok (.iload_n 3, 1) := by decide +kernel
theorem dX9_takeNumber_99 : decode cX9_takeNumber 99 = .ok (.ireturn, 1) := by decide +kernel
set_option maxRecDepth 20000 in
theorem kb_83_0 : ∀ q ∈ tb_83_0, s_atx 83 yX9_takeNumber cX9_takeNumber q.1 q.2 := (List.forall_mem_cons.mpr ⟨⟨s_ldAn dX9_takeNumber_0 rfl, s_mo_ldA _ _⟩, (List.forall_mem_cons.mpr ⟨⟨s_sV mk_83 mk_86 ok_86 (by decide +kernel) dX9_takeNumber_1 w_507 w_509 wp_0 (Or.inr ⟨5, _, _, rfl, rfl⟩), s_h0 mk_83⟩, (List.forall_mem_cons.mpr ⟨⟨s_iconst dX9_takeNumber_4 (by decide +kernel), s_mo_push _ _⟩, (List.forall_mem_cons.mpr ⟨⟨s_stIn dX9_takeNumber_5 rfl, s_mo_stI _ _⟩, (List.forall_mem_cons.mpr ⟨⟨s_iconst dX9_takeNumber_6 (by decide +kernel), s_mo_push _ _⟩, (List.forall_mem_cons.mpr ⟨⟨s_stI dX9_takeNumber_7, s_mo_stI _ _⟩, (List.forall_mem_cons.mpr ⟨⟨s_ldI dX9_takeNumber_9, s_mo_ldI _ _⟩, (List.forall_mem_cons.mpr ⟨⟨s_iconst dX9_takeNumber_11 (by decide +kernel), s_mo_push _ _⟩, (List.forall_mem_cons.mpr ⟨⟨s_icgt dX9_takeNumber_12 (by decide), s_mo_icgt _ _⟩, (List.forall_mem_cons.mpr ⟨⟨s_ldAn dX9_takeNumber_15 rfl, s_mo_ldA _ _⟩, (List.forall_mem_cons.mpr ⟨⟨s_ldAn dX9_takeNumber_16 rfl, s_mo_ldA _ _⟩, (List.forall_mem_cons.mpr ⟨⟨s_getf (ci := 5) (k := 2) rfl (by decide) inX9 w_201 dX9_takeNumber_17, s_mo_getf _ _ _⟩, (List.forall_mem_cons.mpr ⟨⟨s_ldI dX9_takeNumber_20, s_mo_ldI _ _⟩, (List.forall_mem_cons.mpr ⟨⟨s_iadd dX9_takeNumber_22, s_mo_bin _ _⟩, (List.forall_mem_cons.mpr ⟨⟨s_sV mk_83 mk_88 ok_88 (by decide +kernel) dX9_takeNumber_23 w_578 w_580 wp_2 (Or.inr ⟨5, _, _, rfl, rfl⟩), s_h0 mk_83⟩, (List.forall_mem_cons.mpr ⟨⟨s_ifeq dX9_takeNumber_26 (by decide), s_mo_ifeq _ _⟩, (List.forall_mem_cons.mpr ⟨⟨s_bipush dX9_takeNumber_29 (by decide +kernel), s_mo_push _ _⟩, (List.forall_mem_cons.mpr ⟨⟨s_ldIn dX9_takeNumber_31 rfl, s_mo_ldI _ _⟩, (List.forall_mem_cons.mpr ⟨⟨s_imul dX9_takeNumber_32, s_mo_bin _ _⟩, (List.forall_mem_cons.mpr ⟨⟨s_ldAn dX9_takeNumber_33 rfl, s_mo_ldA _ _⟩, (List.forall_mem_cons.mpr ⟨⟨s_getf (ci := 5) (k := 0) rfl (by decide) inX9 w_198 dX9_takeNumber_34, s_mo_getf _ _ _⟩, (List.forall_mem_cons.mpr ⟨⟨s_ldAn dX9_takeNumber_37 rfl, s_mo_ldA _ _⟩, (List.forall_mem_cons.mpr ⟨⟨s_getf (ci := 5) (k := 2) rfl (by decide) inX9 w_201 dX9_takeNumber_38, s_mo_getf _ _ _⟩, (List.forall_mem_cons.mpr ⟨⟨s_ldI dX9_takeNumber_41, s_mo_ldI _ _⟩, (List.forall_mem_cons.mpr ⟨⟨s_iadd dX9_takeNumber_43, s_mo_bin _ _⟩, (List.forall_mem_cons.mpr ⟨⟨s_bald dX9_takeNumber_44, s_mo_bald _⟩, (List.forall_mem_cons.mpr ⟨⟨s_iadd dX9_takeNumber_45, s_mo_bin _ _⟩, (List.forall_mem_cons.mpr ⟨⟨s_bipush dX9_takeNumber_46 (by decide +kernel), s_mo_push _ _⟩, (List.forall_mem_cons.mpr ⟨⟨s_isub dX9_takeNumber_48, s_mo_bin _ _⟩, (List.forall_mem_cons.mpr ⟨⟨s_stIn dX9_takeNumber_49 rfl, s_mo_stI _ _⟩, (List.forall_mem_cons.mpr ⟨⟨s_inc dX9_takeNumber_50 (by decide +kernel), s_mo_inc _ _ _⟩, (List.forall_mem_cons.mpr ⟨⟨s_goto dX9_takeNumber_53 (by decide), s_mo_goto _⟩, (List.forall_mem_cons.mpr ⟨⟨s_ldI dX9_takeNumber_56, s_mo_ldI _ _⟩, (List.forall_mem_cons.mpr ⟨⟨s_ifeq dX9_takeNumber_58 (by decide), s_mo_ifeq _ _⟩, (List.forall_mem_cons.mpr ⟨⟨s_ldI dX9_takeNumber_61, s_mo_ldI _ _⟩, (List.forall_mem_cons.mpr ⟨⟨s_iconst dX9_takeNumber_63 (by decide +kernel), s_mo_push _ _⟩, (fun _ h => absurd h List.not_mem_nil)⟩)⟩)⟩)⟩)⟩)⟩)⟩)⟩)⟩)⟩)⟩)⟩)⟩)⟩)⟩)⟩)⟩)⟩)⟩)⟩)⟩)⟩)⟩)⟩)⟩)⟩)⟩)⟩)⟩)⟩)⟩)⟩)⟩)⟩)⟩)⟩)
set_option maxRecDepth 20000 in
theorem kb_83_1 : ∀ q ∈ tb_83_1, s_atx 83 yX9_takeNumber cX9_takeNumber q.1 q.2 := (List.forall_mem_cons.mpr ⟨⟨s_icgt dX9_takeNumber_64 (by decide), s_mo_icgt _ _⟩, (List.forall_mem_cons.mpr ⟨⟨s_ldIn dX9_takeNumber_67 rfl, s_mo_ldI _ _⟩, (List.forall_mem_cons.mpr ⟨⟨s_ldIn dX9_takeNumber_68 rfl, s_mo_ldI _ _⟩, (List.forall_mem_cons.mpr ⟨⟨s_iclt dX9_takeNumber_69 (by decide), s_mo_iclt _ _⟩, (List.forall_mem_cons.mpr ⟨⟨s_ldIn dX9_takeNumber_72 rfl, s_mo_ldI _ _⟩, (List.forall_mem_cons.mpr ⟨⟨s_ldIn dX9_takeNumber_73 rfl, s_mo_ldI _ _⟩, (List.forall_mem_cons.mpr ⟨⟨s_icle dX9_takeNumber_74 (by decide), s_mo_icle _ _⟩, (List.forall_mem_cons.mpr ⟨⟨s_ldAn dX9_takeNumber_77 rfl, s_mo_ldA _ _⟩, (List.forall_mem_cons.mpr ⟨⟨s_ldAn dX9_takeNumber_78 rfl, s_mo_ldA _ _⟩, (List.forall_mem_cons.mpr ⟨⟨s_getf (ci := 5) (k := 2) rfl (by decide) inX9 w_201 dX9_takeNumber_79, s_mo_getf _ _ _⟩, (List.forall_mem_cons.mpr ⟨⟨s_putI (ci := 5) (k := 4) rfl (by decide) inX9 tyX9_ok nmX9 rfl rfl w_203 dX9_takeNumber_82, s_mo_putI _ _ _⟩, (List.forall_mem_cons.mpr ⟨⟨s_iconst dX9_takeNumber_85 (by decide +kernel), s_mo_push _ _⟩, (List.forall_mem_cons.mpr ⟨s_r1 mk_83 dX9_takeNumber_86, (List.forall_mem_cons.mpr ⟨⟨s_ldAn dX9_takeNumber_87 rfl, s_mo_ldA _ _⟩, (List.forall_mem_cons.mpr ⟨⟨s_dup dX9_takeNumber_88, s_mo_dup _⟩, (List.forall_mem_cons.mpr ⟨⟨s_getf (ci := 5) (k := 2) rfl (by decide) inX9 w_201 dX9_takeNumber_89, s_mo_getf _ _ _⟩, (List.forall_mem_cons.mpr ⟨⟨s_ldI dX9_takeNumber_92, s_mo_ldI _ _⟩, (List.forall_mem_cons.mpr ⟨⟨s_iadd dX9_takeNumber_94, s_mo_bin _ _⟩, (List.forall_mem_cons.mpr ⟨⟨s_putI (ci := 5) (k := 2) rfl (by decide) inX9 tyX9_ok nmX9 rfl rfl w_201 dX9_takeNumber_95, s_mo_putI _ _ _⟩, (List.forall_mem_cons.mpr ⟨⟨s_ldIn dX9_takeNumber_98 rfl, s_mo_ldI _ _⟩, (List.forall_mem_cons.mpr ⟨s_r1 mk_83 dX9_takeNumber_99, (fun _ h => absurd h List.not_mem_nil)⟩)⟩)⟩)⟩)⟩)⟩)⟩)⟩)⟩)⟩)⟩)⟩)⟩)⟩)⟩)⟩)⟩)⟩)⟩)⟩)⟩)
theorem km_83 : ∀ t ∈ tm_83, s_tok 83 t := (List.forall_mem_cons.mpr ⟨s_lift mk_83 kb_83_0, (List.forall_mem_cons.mpr ⟨s_lift mk_83 kb_83_1, (fun _ h => absurd h List.not_mem_nil)⟩)⟩)
theorem dX9_refuseNext_0 : decode cX9_refuseNext 0 = .ok (.aload_n 0, 1) := by decide +kernel
theorem dX9_refuseNext_1 : decode cX9_refuseNext 1 = .ok (.invokevirtual 32, 3) := by decide +kernel
theorem dX9_refuseNext_4 : decode cX9_refuseNext 4 = .ok (.aload_n 0, 1) := by decide +kernel
theorem dX9_refuseNext_5 : decode cX9_refuseNext 5 = .ok (.aload_n 0, 1) := by decide +kernel
theorem dX9_refuseNext_6 : decode cX9_refuseNext 6 = .ok (.getfield 19, 3) := by decide +kernel
theorem dX9_refuseNext_9 : decode cX9_refuseNext 9 = .ok (.putfield 25, 3) := by decide +kernel
theorem dX9_refuseNext_12 : decode cX9_refuseNext 12 = .ok (.iconst 0, 1) := by decide +kernel
theorem dX9_refuseNext_13 : decode cX9_refuseNext 13 = .ok (.ireturn, 1) := by decide +kernel
set_option maxRecDepth 20000 in
theorem kb_84_0 : ∀ q ∈ tb_84_0, s_atx 84 yX9_refuseNext cX9_refuseNext q.1 q.2 := (List.forall_mem_cons.mpr ⟨⟨s_ldAn dX9_refuseNext_0 rfl, s_mo_ldA _ _⟩, (List.forall_mem_cons.mpr ⟨⟨s_sV mk_84 mk_86 ok_86 (by decide +kernel) dX9_refuseNext_1 w_507 w_509 wp_0 (Or.inr ⟨5, _, _, rfl, rfl⟩), s_h0 mk_84⟩, (List.forall_mem_cons.mpr ⟨⟨s_ldAn dX9_refuseNext_4 rfl, s_mo_ldA _ _⟩, (List.forall_mem_cons.mpr ⟨⟨s_ldAn dX9_refuseNext_5 rfl, s_mo_ldA _ _⟩, (List.forall_mem_cons.mpr ⟨⟨s_getf (ci := 5) (k := 2) rfl (by decide) inX9 w_201 dX9_refuseNext_6, s_mo_getf _ _ _⟩, (List.forall_mem_cons.mpr ⟨⟨s_putI (ci := 5) (k := 4) rfl (by decide) inX9 tyX9_ok nmX9 rfl rfl w_203 dX9_refuseNext_9, s_mo_putI _ _ _⟩, (List.forall_mem_cons.mpr ⟨⟨s_iconst dX9_refuseNext_12 (by decide +kernel), s_mo_push _ _⟩, (List.forall_mem_cons.mpr ⟨s_r2 mk_84 dX9_refuseNext_13, (fun _ h => absurd h List.not_mem_nil)⟩)⟩)⟩)⟩)⟩)⟩)⟩)⟩)
theorem km_84 : ∀ t ∈ tm_84, s_tok 84 t := (List.forall_mem_cons.mpr ⟨s_lift mk_84 kb_84_0, (fun _ h => absurd h List.not_mem_nil)⟩)
theorem dX9_refuseTaken_0 : decode cX9_refuseTaken 0 = .ok (.aload_n 0, 1) := by decide +kernel
theorem dX9_refuseTaken_1 : decode cX9_refuseTaken 1 = .ok (.aload_n 0, 1) := by decide +kernel
theorem dX9_refuseTaken_2 : decode cX9_refuseTaken 2 = .ok (.getfield 22, 3) := by decide +kernel
theorem dX9_refuseTaken_5 : decode cX9_refuseTaken 5 = .ok (.putfield 25, 3) := by decide +kernel
theorem dX9_refuseTaken_8 : decode cX9_refuseTaken 8 = .ok (.iconst 0, 1) := by decide +kernel
theorem dX9_refuseTaken_9 : decode cX9_refuseTaken 9 = .ok (.ireturn, 1) := by decide +kernel
set_option maxRecDepth 20000 in
theorem kb_85_0 : ∀ q ∈ tb_85_0, s_atx 85 yX9_refuseTaken cX9_refuseTaken q.1 q.2 := (List.forall_mem_cons.mpr ⟨⟨s_ldAn dX9_refuseTaken_0 rfl, s_mo_ldA _ _⟩, (List.forall_mem_cons.mpr ⟨⟨s_ldAn dX9_refuseTaken_1 rfl, s_mo_ldA _ _⟩, (List.forall_mem_cons.mpr ⟨⟨s_getf (ci := 5) (k := 3) rfl (by decide) inX9 w_202 dX9_refuseTaken_2, s_mo_getf _ _ _⟩, (List.forall_mem_cons.mpr ⟨⟨s_putI (ci := 5) (k := 4) rfl (by decide) inX9 tyX9_ok nmX9 rfl rfl w_203 dX9_refuseTaken_5, s_mo_putI _ _ _⟩, (List.forall_mem_cons.mpr ⟨⟨s_iconst dX9_refuseTaken_8 (by decide +kernel), s_mo_push _ _⟩, (List.forall_mem_cons.mpr ⟨s_r2 mk_85 dX9_refuseTaken_9, (fun _ h => absurd h List.not_mem_nil)⟩)⟩)⟩)⟩)⟩)⟩)
theorem km_85 : ∀ t ∈ tm_85, s_tok 85 t := (List.forall_mem_cons.mpr ⟨s_lift mk_85 kb_85_0, (fun _ h => absurd h List.not_mem_nil)⟩)
theorem dX9_skipBlanks_0 : decode cX9_skipBlanks 0 = .ok (.aload_n 0, 1) := by decide +kernel
theorem dX9_skipBlanks_1 : decode cX9_skipBlanks 1 = .ok (.getfield 19, 3) := by decide +kernel
theorem dX9_skipBlanks_4 : decode cX9_skipBlanks 4 = .ok (.aload_n 0, 1) := by decide +kernel
theorem dX9_skipBlanks_5 : decode cX9_skipBlanks 5 = .ok (.getfield 15, 3) := by decide +kernel
theorem dX9_skipBlanks_8 : decode cX9_skipBlanks 8 = .ok (.if_icmp .ge 30, 3) := by decide +kernel
theorem dX9_skipBlanks_11 : decode cX9_skipBlanks 11 = .ok (.aload_n 0, 1) := by decide +kernel
theorem dX9_skipBlanks_12 : decode cX9_skipBlanks 12 = .ok (.getfield 9, 3) := by decide +kernel
theorem dX9_skipBlanks_15 : decode cX9_skipBlanks 15 = .ok (.aload_n 0, 1) := by decide +kernel
theorem dX9_skipBlanks_16 : decode cX9_skipBlanks 16 = .ok (.getfield 19, 3) := by decide +kernel
theorem dX9_skipBlanks_19 : decode cX9_skipBlanks 19 = .ok (.baload, 1) := by decide +kernel
theorem dX9_skipBlanks_20 : decode cX9_skipBlanks 20 = .ok (.bipush 32, 2) := by decide +kernel
theorem dX9_skipBlanks_22 : decode cX9_skipBlanks 22 = .ok (.if_icmp .ne 16, 3) := by decide +kernel
theorem dX9_skipBlanks_25 : decode cX9_skipBlanks 25 = .ok (.aload_n 0, 1) := by decide +kernel
theorem dX9_skipBlanks_26 : decode cX9_skipBlanks 26 = .ok (.dup, 1) := by decide +kernel
theorem dX9_skipBlanks_27 : decode cX9_skipBlanks 27 = .ok (.getfield 19, 3) := by decide +kernel
theorem dX9_skipBlanks_30 : decode cX9_skipBlanks 30 = .ok (.iconst 1, 1) := by decide +kernel
theorem dX9_skipBlanks_31 : decode cX9_skipBlanks 31 = .ok (.iadd, 1) := by decide +kernel
theorem dX9_skipBlanks_32 : decode cX9_skipBlanks 32 = .ok (.putfield 19, 3) := by decide +kernel
theorem dX9_skipBlanks_35 : decode cX9_skipBlanks 35 = .ok (.goto (-35), 3) := by decide +kernel
theorem dX9_skipBlanks_38 : decode cX9_skipBlanks 38 = .ok (.return_, 1) := by decide +kernel
set_option maxRecDepth 20000 in
theorem kb_86_0 : ∀ q ∈ tb_86_0, s_atx 86 yX9_skipBlanks cX9_skipBlanks q.1 q.2 := (List.forall_mem_cons.mpr ⟨⟨s_ldAn dX9_skipBlanks_0 rfl, s_mo_ldA _ _⟩, (List.forall_mem_cons.mpr ⟨⟨s_getf (ci := 5) (k := 2) rfl (by decide) inX9 w_201 dX9_skipBlanks_1, s_mo_getf _ _ _⟩, (List.forall_mem_cons.mpr ⟨⟨s_ldAn dX9_skipBlanks_4 rfl, s_mo_ldA _ _⟩, (List.forall_mem_cons.mpr ⟨⟨s_getf (ci := 5) (k := 1) rfl (by decide) inX9 w_199 dX9_skipBlanks_5, s_mo_getf _ _ _⟩, (List.forall_mem_cons.mpr ⟨⟨s_icge dX9_skipBlanks_8 (by decide), s_mo_icge _ _⟩, (List.forall_mem_cons.mpr ⟨⟨s_ldAn dX9_skipBlanks_11 rfl, s_mo_ldA _ _⟩, (List.forall_mem_cons.mpr ⟨⟨s_getf (ci := 5) (k := 0) rfl (by decide) inX9 w_198 dX9_skipBlanks_12, s_mo_getf _ _ _⟩, (List.forall_mem_cons.mpr ⟨⟨s_ldAn dX9_skipBlanks_15 rfl, s_mo_ldA _ _⟩, (List.forall_mem_cons.mpr ⟨⟨s_getf (ci := 5) (k := 2) rfl (by decide) inX9 w_201 dX9_skipBlanks_16, s_mo_getf _ _ _⟩, (List.forall_mem_cons.mpr ⟨⟨s_bald dX9_skipBlanks_19, s_mo_bald _⟩, (List.forall_mem_cons.mpr ⟨⟨s_bipush dX9_skipBlanks_20 (by decide +kernel), s_mo_push _ _⟩, (List.forall_mem_cons.mpr ⟨⟨s_icne dX9_skipBlanks_22 (by decide), s_mo_icne _ _⟩, (List.forall_mem_cons.mpr ⟨⟨s_ldAn dX9_skipBlanks_25 rfl, s_mo_ldA _ _⟩, (List.forall_mem_cons.mpr ⟨⟨s_dup dX9_skipBlanks_26, s_mo_dup _⟩, (List.forall_mem_cons.mpr ⟨⟨s_getf (ci := 5) (k := 2) rfl (by decide) inX9 w_201 dX9_skipBlanks_27, s_mo_getf _ _ _⟩, (List.forall_mem_cons.mpr ⟨⟨s_iconst dX9_skipBlanks_30 (by decide +kernel), s_mo_push _ _⟩, (List.forall_mem_cons.mpr ⟨⟨s_iadd dX9_skipBlanks_31, s_mo_bin _ _⟩, (List.forall_mem_cons.mpr ⟨⟨s_putI (ci := 5) (k := 2) rfl (by decide) inX9 tyX9_ok nmX9 rfl rfl w_201 dX9_skipBlanks_32, s_mo_putI _ _ _⟩, (List.forall_mem_cons.mpr ⟨⟨s_goto dX9_skipBlanks_35 (by decide), s_mo_goto _⟩, (List.forall_mem_cons.mpr ⟨s_r0 mk_86 dX9_skipBlanks_38, (fun _ h => absurd h List.not_mem_nil)⟩)⟩)⟩)⟩)⟩)⟩)⟩)⟩)⟩)⟩)⟩)⟩)⟩)⟩)⟩)⟩)⟩)⟩)⟩)⟩)
theorem km_86 : ∀ t ∈ tm_86, s_tok 86 t := (List.forall_mem_cons.mpr ⟨s_lift mk_86 kb_86_0, (fun _ h => absurd h List.not_mem_nil)⟩)
theorem dX9_isLetter_0 : decode cX9_isLetter 0 = .ok (.iload_n 1, 1) := by decide +kernel
theorem dX9_isLetter_1 : decode cX9_isLetter 1 = .ok (.aload_n 0, 1) := by decide +kernel
theorem dX9_isLetter_2 : decode cX9_isLetter 2 = .ok (.getfield 15, 3) := by decide +kernel
theorem dX9_isLetter_5 : decode cX9_isLetter 5 = .ok (.if_icmp .ge 29, 3) := by decide +kernel
theorem dX9_isLetter_8 : decode cX9_isLetter 8 = .ok (.aload_n 0, 1) := by decide +kernel
theorem dX9_isLetter_9 : decode cX9_isLetter 9 = .ok (.getfield 9, 3) := by decide +kernel
theorem dX9_isLetter_12 : decode cX9_isLetter 12 = .ok (.iload_n 1, 1) := by decide +kernel
theorem dX9_isLetter_13 : decode cX9_isLetter 13 = .ok (.baload, 1) := by decide +kernel
theorem dX9_isLetter_14 : decode cX9_isLetter 14 = .ok (.bipush 97, 2) := by decide +kernel
theorem dX9_isLetter_16 : decode cX9_isLetter 16 = .ok (.if_icmp .lt 18, 3) := by decide +kernel
theorem dX9_isLetter_19 : decode cX9_isLetter 19 = .ok (.aload_n 0, 1) := by decide +kernel
theorem dX9_isLetter_20 : decode cX9_isLetter 20 = .ok (.getfield 9, 3) := by decide +kernel
theorem dX9_isLetter_23 : decode cX9_isLetter 23 = .ok (.iload_n 1, 1) := by decide +kernel
theorem dX9_isLetter_24 : decode cX9_isLetter 24 = .ok (.baload, 1) := by decide +kernel
theorem dX9_isLetter_25 : decode cX9_isLetter 25 = .ok (.bipush 122, 2) := by decide +kernel
theorem dX9_isLetter_27 : decode cX9_isLetter 27 = .ok (.if_icmp .gt 7, 3) := by decide +kernel
theorem dX9_isLetter_30 : decode cX9_isLetter 30 = .ok (.iconst 1, 1) := by decide +kernel
theorem dX9_isLetter_31 : decode cX9_isLetter 31 = .ok (.goto 4, 3) := by decide +kernel
theorem dX9_isLetter_34 : decode cX9_isLetter 34 = .ok (.iconst 0, 1) := by decide +kernel
theorem dX9_isLetter_35 : decode cX9_isLetter 35 = .ok (.ireturn, 1) := by decide +kernel
set_option maxRecDepth 20000 in
theorem kb_87_0 : ∀ q ∈ tb_87_0, s_atx 87 yX9_isLetter cX9_isLetter q.1 q.2 := (List.forall_mem_cons.mpr ⟨⟨s_ldIn dX9_isLetter_0 rfl, s_mo_ldI _ _⟩, (List.forall_mem_cons.mpr ⟨⟨s_ldAn dX9_isLetter_1 rfl, s_mo_ldA _ _⟩, (List.forall_mem_cons.mpr ⟨⟨s_getf (ci := 5) (k := 1) rfl (by decide) inX9 w_199 dX9_isLetter_2, s_mo_getf _ _ _⟩, (List.forall_mem_cons.mpr ⟨⟨s_icge dX9_isLetter_5 (by decide), s_mo_icge _ _⟩, (List.forall_mem_cons.mpr ⟨⟨s_ldAn dX9_isLetter_8 rfl, s_mo_ldA _ _⟩, (List.forall_mem_cons.mpr ⟨⟨s_getf (ci := 5) (k := 0) rfl (by decide) inX9 w_198 dX9_isLetter_9, s_mo_getf _ _ _⟩, (List.forall_mem_cons.mpr ⟨⟨s_ldIn dX9_isLetter_12 rfl, s_mo_ldI _ _⟩, (List.forall_mem_cons.mpr ⟨⟨s_bald dX9_isLetter_13, s_mo_bald _⟩, (List.forall_mem_cons.mpr ⟨⟨s_bipush dX9_isLetter_14 (by decide +kernel), s_mo_push _ _⟩, (List.forall_mem_cons.mpr ⟨⟨s_iclt dX9_isLetter_16 (by decide), s_mo_iclt _ _⟩, (List.forall_mem_cons.mpr ⟨⟨s_ldAn dX9_isLetter_19 rfl, s_mo_ldA _ _⟩, (List.forall_mem_cons.mpr ⟨⟨s_getf (ci := 5) (k := 0) rfl (by decide) inX9 w_198 dX9_isLetter_20, s_mo_getf _ _ _⟩, (List.forall_mem_cons.mpr ⟨⟨s_ldIn dX9_isLetter_23 rfl, s_mo_ldI _ _⟩, (List.forall_mem_cons.mpr ⟨⟨s_bald dX9_isLetter_24, s_mo_bald _⟩, (List.forall_mem_cons.mpr ⟨⟨s_bipush dX9_isLetter_25 (by decide +kernel), s_mo_push _ _⟩, (List.forall_mem_cons.mpr ⟨⟨s_icgt dX9_isLetter_27 (by decide), s_mo_icgt _ _⟩, (List.forall_mem_cons.mpr ⟨⟨s_iconst dX9_isLetter_30 (by decide +kernel), s_mo_push _ _⟩, (List.forall_mem_cons.mpr ⟨⟨s_goto dX9_isLetter_31 (by decide), s_mo_goto _⟩, (List.forall_mem_cons.mpr ⟨⟨s_iconst dX9_isLetter_34 (by decide +kernel), s_mo_push _ _⟩, (List.forall_mem_cons.mpr ⟨s_r2 mk_87 dX9_isLetter_35, (fun _ h => absurd h List.not_mem_nil)⟩)⟩)⟩)⟩)⟩)⟩)⟩)⟩)⟩)⟩)⟩)⟩)⟩)⟩)⟩)⟩)⟩)⟩)⟩)⟩)
theorem km_87 : ∀ t ∈ tm_87, s_tok 87 t := (List.forall_mem_cons.mpr ⟨s_lift mk_87 kb_87_0, (fun _ h => absurd h List.not_mem_nil)⟩)
theorem dX9_isDigit_0 : decode cX9_isDigit 0 = .ok (.iload_n 1, 1) := by decide +kernel
theorem dX9_isDigit_1 : decode cX9_isDigit 1 = .ok (.aload_n 0, 1) := by decide +kernel
theorem dX9_isDigit_2 : decode cX9_isDigit 2 = .ok (.getfield 15, 3) := by decide +kernel
theorem dX9_isDigit_5 : decode cX9_isDigit 5 = .ok (.if_icmp .ge 29, 3) := by decide +kernel
theorem dX9_isDigit_8 : decode cX9_isDigit 8 = .ok (.aload_n 0, 1) := by decide +kernel
theorem dX9_isDigit_9 : decode cX9_isDigit 9 = .ok (.getfield 9, 3) := by decide +kernel
theorem dX9_isDigit_12 : decode cX9_isDigit 12 = .ok (.iload_n 1, 1) := by decide +kernel
theorem dX9_isDigit_13 : decode cX9_isDigit 13 = .ok (.baload, 1) := by decide +kernel
theorem dX9_isDigit_14 : decode cX9_isDigit 14 = .ok (.bipush 48, 2) := by decide +kernel
theorem dX9_isDigit_16 : decode cX9_isDigit 16 = .ok (.if_icmp .lt 18, 3) := by decide +kernel
theorem dX9_isDigit_19 : decode cX9_isDigit 19 = .ok (.aload_n 0, 1) := by decide +kernel
theorem dX9_isDigit_20 : decode cX9_isDigit 20 = .ok (.getfield 9, 3) := by decide +kernel
theorem dX9_isDigit_23 : decode cX9_isDigit 23 = .ok (.iload_n 1, 1) := by decide +kernel
theorem dX9_isDigit_24 : decode cX9_isDigit 24 = .ok (.baload, 1) := by decide +kernel
theorem dX9_isDigit_25 : decode cX9_isDigit 25 = .ok (.bipush 57, 2) := by decide +kernel
theorem dX9_isDigit_27 : decode cX9_isDigit 27 = .ok (.if_icmp .gt 7, 3) := by decide +kernel
theorem dX9_isDigit_30 : decode cX9_isDigit 30 = .ok (.iconst 1, 1) := by decide +kernel
theorem dX9_isDigit_31 : decode cX9_isDigit 31 = .ok (.goto 4, 3) := by decide +kernel
theorem dX9_isDigit_34 : decode cX9_isDigit 34 = .ok (.iconst 0, 1) := by decide +kernel
theorem dX9_isDigit_35 : decode cX9_isDigit 35 = .ok (.ireturn, 1) := by decide +kernel
set_option maxRecDepth 20000 in
theorem kb_88_0 : ∀ q ∈ tb_88_0, s_atx 88 yX9_isDigit cX9_isDigit q.1 q.2 := (List.forall_mem_cons.mpr ⟨⟨s_ldIn dX9_isDigit_0 rfl, s_mo_ldI _ _⟩, (List.forall_mem_cons.mpr ⟨⟨s_ldAn dX9_isDigit_1 rfl, s_mo_ldA _ _⟩, (List.forall_mem_cons.mpr ⟨⟨s_getf (ci := 5) (k := 1) rfl (by decide) inX9 w_199 dX9_isDigit_2, s_mo_getf _ _ _⟩, (List.forall_mem_cons.mpr ⟨⟨s_icge dX9_isDigit_5 (by decide), s_mo_icge _ _⟩, (List.forall_mem_cons.mpr ⟨⟨s_ldAn dX9_isDigit_8 rfl, s_mo_ldA _ _⟩, (List.forall_mem_cons.mpr ⟨⟨s_getf (ci := 5) (k := 0) rfl (by decide) inX9 w_198 dX9_isDigit_9, s_mo_getf _ _ _⟩, (List.forall_mem_cons.mpr ⟨⟨s_ldIn dX9_isDigit_12 rfl, s_mo_ldI _ _⟩, (List.forall_mem_cons.mpr ⟨⟨s_bald dX9_isDigit_13, s_mo_bald _⟩, (List.forall_mem_cons.mpr ⟨⟨s_bipush dX9_isDigit_14 (by decide +kernel), s_mo_push _ _⟩, (List.forall_mem_cons.mpr ⟨⟨s_iclt dX9_isDigit_16 (by decide), s_mo_iclt _ _⟩, (List.forall_mem_cons.mpr ⟨⟨s_ldAn dX9_isDigit_19 rfl, s_mo_ldA _ _⟩, (List.forall_mem_cons.mpr ⟨⟨s_getf (ci := 5) (k := 0) rfl (by decide) inX9 w_198 dX9_isDigit_20, s_mo_getf _ _ _⟩, (List.forall_mem_cons.mpr ⟨⟨s_ldIn dX9_isDigit_23 rfl, s_mo_ldI _ _⟩, (List.forall_mem_cons.mpr ⟨⟨s_bald dX9_isDigit_24, s_mo_bald _⟩, (List.forall_mem_cons.mpr ⟨⟨s_bipush dX9_isDigit_25 (by decide +kernel), s_mo_push _ _⟩, (List.forall_mem_cons.mpr ⟨⟨s_icgt dX9_isDigit_27 (by decide), s_mo_icgt _ _⟩, (List.forall_mem_cons.mpr ⟨⟨s_iconst dX9_isDigit_30 (by decide +kernel), s_mo_push _ _⟩, (List.forall_mem_cons.mpr ⟨⟨s_goto dX9_isDigit_31 (by decide), s_mo_goto _⟩, (List.forall_mem_cons.mpr ⟨⟨s_iconst dX9_isDigit_34 (by decide +kernel), s_mo_push _ _⟩, (List.forall_mem_cons.mpr ⟨s_r2 mk_88 dX9_isDigit_35, (fun _ h => absurd h List.not_mem_nil)⟩)⟩)⟩)⟩)⟩)⟩)⟩)⟩)⟩)⟩)⟩)⟩)⟩)⟩)⟩)⟩)⟩)⟩)⟩)⟩)
theorem km_88 : ∀ t ∈ tm_88, s_tok 88 t := (List.forall_mem_cons.mpr ⟨s_lift mk_88 kb_88_0, (fun _ h => absurd h List.not_mem_nil)⟩)
theorem dX10_init_0 : decode cX10_init 0 = .ok (.aload_n 0, 1) := by decide +kernel
theorem dX10_init_1 : decode cX10_init 1 = .ok (.invokespecial 3, 3) := by decide +kernel
theorem dX10_init_4 : decode cX10_init 4 = .ok (.aload_n 0, 1) := by decide +kernel
theorem dX10_init_5 : decode cX10_init 5 = .ok (.iconst 0, 1) := by decide +kernel
theorem dX10_init_6 : decode cX10_init 6 = .ok (.putfield 9, 3) := by decide +kernel
theorem dX10_init_9 : decode cX10_init 9 = .ok (.aload_n 0, 1) := by decide +kernel
theorem dX10_init_10 : decode cX10_init 10 = .ok (.iconst 0, 1) := by decide +kernel
theorem dX10_init_11 : decode cX10_init 11 = .ok (.putfield 15, 3) := by decide +kernel
theorem dX10_init_14 : decode cX10_init 14 = .ok (.aload_n 0, 1) := by decide +kernel
theorem dX10_init_15 : decode cX10_init 15 = .ok (.iconst 0, 1) := by decide +kernel
theorem dX10_init_16 : decode cX10_init 16 = .ok (.putfield 18, 3) := by decide +kernel
theorem dX10_init_19 : decode cX10_init 19 = .ok (.aload_n 0, 1) := by decide +kernel
theorem dX10_init_20 : decode cX10_init 20 = .ok (.sipush 720, 3) := by decide +kernel
theorem dX10_init_23 : decode cX10_init 23 = .ok (.newarray .int, 2) := by decide +kernel
theorem dX10_init_25 : decode cX10_init 25 = .ok (.putfield 21, 3) := by decide +kernel
theorem dX10_init_28 : decode cX10_init 28 = .ok (.aload_n 0, 1) := by decide +kernel
theorem dX10_init_29 : decode cX10_init 29 = .ok (.bipush 30, 2) := by decide +kernel
theorem dX10_init_31 : decode cX10_init 31 = .ok (.newarray .int, 2) := by decide +kernel
theorem dX10_init_33 : decode cX10_init 33 = .ok (.putfield 25, 3) := by decide +kernel
theorem dX10_init_36 : decode cX10_init 36 = .ok (.aload_n 0, 1) := by decide +kernel
theorem dX10_init_37 : decode cX10_init 37 = .ok (.bipush 30, 2) := by decide +kernel
theorem dX10_init_39 : decode cX10_init 39 = .ok (.newarray .int, 2) := by decide +kernel
theorem dX10_init_41 : decode cX10_init 41 = .ok (.putfield 28, 3) := by decide +kernel
theorem dX10_init_44 : decode cX10_init 44 = .ok (.aload_n 0, 1) := by decide +kernel
theorem dX10_init_45 : decode cX10_init 45 = .ok (.bipush 24, 2) := by decide +kernel
theorem dX10_init_47 : decode cX10_init 47 = .ok (.newarray .int, 2) := by decide +kernel
theorem dX10_init_49 : decode cX10_init 49 = .ok (.putfield 31, 3) := by decide +kernel
theorem dX10_init_52 : decode cX10_init 52 = .ok (.aload_n 0, 1) := by decide +kernel
theorem dX10_init_53 : decode cX10_init 53 = .ok (.bipush 24, 2) := by decide +kernel
theorem dX10_init_55 : decode cX10_init 55 = .ok (.newarray .int, 2) := by decide +kernel
theorem dX10_init_57 : decode cX10_init 57 = .ok (.putfield 34, 3) := by decide +kernel
theorem dX10_init_60 : decode cX10_init 60 = .ok (.aload_n 0, 1) := by decide +kernel
theorem dX10_init_61 : decode cX10_init 61 = .ok (.bipush 49, 2) := by decide +kernel
theorem dX10_init_63 : decode cX10_init 63 = .ok (.newarray .int, 2) := by decide +kernel
theorem dX10_init_65 : decode cX10_init 65 = .ok (.putfield 37, 3) := by decide +kernel
theorem dX10_init_68 : decode cX10_init 68 = .ok (.return_, 1) := by decide +kernel
set_option maxRecDepth 20000 in
theorem kb_89_0 : ∀ q ∈ tb_89_0, s_atx 89 yX10_init cX10_init q.1 q.2 := (List.forall_mem_cons.mpr ⟨⟨s_ldAn dX10_init_0 rfl, s_mo_ldA _ _⟩, (List.forall_mem_cons.mpr ⟨⟨s_oinit w_254 w_oi w_oc dX10_init_1, s_mo_oinit _⟩, (List.forall_mem_cons.mpr ⟨⟨s_ldAn dX10_init_4 rfl, s_mo_ldA _ _⟩, (List.forall_mem_cons.mpr ⟨⟨s_iconst dX10_init_5 (by decide +kernel), s_mo_push _ _⟩, (List.forall_mem_cons.mpr ⟨⟨s_putI (ci := 6) (k := 0) rfl (by decide) inX10 tyX10_ok nmX10 rfl rfl w_255 dX10_init_6, s_mo_putI _ _ _⟩, (List.forall_mem_cons.mpr ⟨⟨s_ldAn dX10_init_9 rfl, s_mo_ldA _ _⟩, (List.forall_mem_cons.mpr ⟨⟨s_iconst dX10_init_10 (by decide +kernel), s_mo_push _ _⟩, (List.forall_mem_cons.mpr ⟨⟨s_putI (ci := 6) (k := 1) rfl (by decide) inX10 tyX10_ok nmX10 rfl rfl w_256 dX10_init_11, s_mo_putI _ _ _⟩, (List.forall_mem_cons.mpr ⟨⟨s_ldAn dX10_init_14 rfl, s_mo_ldA _ _⟩, (List.forall_mem_cons.mpr ⟨⟨s_iconst dX10_init_15 (by decide +kernel), s_mo_push _ _⟩, (List.forall_mem_cons.mpr ⟨⟨s_putI (ci := 6) (k := 2) rfl (by decide) inX10 tyX10_ok nmX10 rfl rfl w_257 dX10_init_16, s_mo_putI _ _ _⟩, (List.forall_mem_cons.mpr ⟨⟨s_ldAn dX10_init_19 rfl, s_mo_ldA _ _⟩, (List.forall_mem_cons.mpr ⟨⟨s_sipush dX10_init_20 (by decide +kernel), s_mo_push _ _⟩, (List.forall_mem_cons.mpr ⟨⟨s_newa (t := 0) (aty := .int) (ty := .int) (by decide) rfl (fun _ => rfl) (fun _ _ h => h) (by decide) (fun _ _ => ⟨_, rfl, rfl⟩) w_arr0 dX10_init_23, s_mo_newa _ _⟩, (List.forall_mem_cons.mpr ⟨⟨s_putAF (ci := 6) (k := 3) rfl (by decide) inX10 tyX10_ok nmX10 rfl rfl rfl (fun _ => rfl) (fun _ => rfl) w_258 dX10_init_25, s_mo_putA _ _ _⟩, (List.forall_mem_cons.mpr ⟨⟨s_ldAn dX10_init_28 rfl, s_mo_ldA _ _⟩, (List.forall_mem_cons.mpr ⟨⟨s_bipush dX10_init_29 (by decide +kernel), s_mo_push _ _⟩, (List.forall_mem_cons.mpr ⟨⟨s_newa (t := 0) (aty := .int) (ty := .int) (by decide) rfl (fun _ => rfl) (fun _ _ h => h) (by decide) (fun _ _ => ⟨_, rfl, rfl⟩) w_arr0 dX10_init_31, s_mo_newa _ _⟩, (List.forall_mem_cons.mpr ⟨⟨s_putAF (ci := 6) (k := 4) rfl (by decide) inX10 tyX10_ok nmX10 rfl rfl rfl (fun _ => rfl) (fun _ => rfl) w_259 dX10_init_33, s_mo_putA _ _ _⟩, (List.forall_mem_cons.mpr ⟨⟨s_ldAn dX10_init_36 rfl, s_mo_ldA _ _⟩, (List.forall_mem_cons.mpr ⟨⟨s_bipush dX10_init_37 (by decide +kernel), s_mo_push _ _⟩, (List.forall_mem_cons.mpr ⟨⟨s_newa (t := 0) (aty := .int) (ty := .int) (by decide) rfl (fun _ => rfl) (fun _ _ h => h) (by decide) (fun _ _ => ⟨_, rfl, rfl⟩) w_arr0 dX10_init_39, s_mo_newa _ _⟩, (List.forall_mem_cons.mpr ⟨⟨s_putAF (ci := 6) (k := 5) rfl (by decide) inX10 tyX10_ok nmX10 rfl rfl rfl (fun _ => rfl) (fun _ => rfl) w_260 dX10_init_41, s_mo_putA _ _ _⟩, (List.forall_mem_cons.mpr ⟨⟨s_ldAn dX10_init_44 rfl, s_mo_ldA _ _⟩, (List.forall_mem_cons.mpr ⟨⟨s_bipush dX10_init_45 (by decide +kernel), s_mo_push _ _⟩, (List.forall_mem_cons.mpr ⟨⟨s_newa (t := 0) (aty := .int) (ty := .int) (by decide) rfl (fun _ => rfl) (fun _ _ h => h) (by decide) (fun _ _ => ⟨_, rfl, rfl⟩) w_arr0 dX10_init_47, s_mo_newa _ _⟩, (List.forall_mem_cons.mpr ⟨⟨s_putAF (ci := 6) (k := 6) rfl (by decide) inX10 tyX10_ok nmX10 rfl rfl rfl (fun _ => rfl) (fun _ => rfl) w_261 dX10_init_49, s_mo_putA _ _ _⟩, (List.forall_mem_cons.mpr ⟨⟨s_ldAn dX10_init_52 rfl, s_mo_ldA _ _⟩, (List.forall_mem_cons.mpr ⟨⟨s_bipush dX10_init_53 (by decide +kernel), s_mo_push _ _⟩, (List.forall_mem_cons.mpr ⟨⟨s_newa (t := 0) (aty := .int) (ty := .int) (by decide) rfl (fun _ => rfl) (fun _ _ h => h) (by decide) (fun _ _ => ⟨_, rfl, rfl⟩) w_arr0 dX10_init_55, s_mo_newa _ _⟩, (List.forall_mem_cons.mpr ⟨⟨s_putAF (ci := 6) (k := 7) rfl (by decide) inX10 tyX10_ok nmX10 rfl rfl rfl (fun _ => rfl) (fun _ => rfl) w_262 dX10_init_57, s_mo_putA _ _ _⟩, (List.forall_mem_cons.mpr ⟨⟨s_ldAn dX10_init_60 rfl, s_mo_ldA _ _⟩, (List.forall_mem_cons.mpr ⟨⟨s_bipush dX10_init_61 (by decide +kernel), s_mo_push _ _⟩, (List.forall_mem_cons.mpr ⟨⟨s_newa (t := 0) (aty := .int) (ty := .int) (by decide) rfl (fun _ => rfl) (fun _ _ h => h) (by decide) (fun _ _ => ⟨_, rfl, rfl⟩) w_arr0 dX10_init_63, s_mo_newa _ _⟩, (fun _ h => absurd h List.not_mem_nil)⟩)⟩)⟩)⟩)⟩)⟩)⟩)⟩)⟩)⟩)⟩)⟩)⟩)⟩)⟩)⟩)⟩)⟩)⟩)⟩)⟩)⟩)⟩)⟩)⟩)⟩)⟩)⟩)⟩)⟩)⟩)⟩)⟩)⟩)
set_option maxRecDepth 20000 in
theorem kb_89_1 : ∀ q ∈ tb_89_1, s_atx 89 yX10_init cX10_init q.1 q.2 := (List.forall_mem_cons.mpr ⟨⟨s_putAF (ci := 6) (k := 8) rfl (by decide) inX10 tyX10_ok nmX10 rfl rfl rfl (fun _ => rfl) (fun _ => rfl) w_263 dX10_init_65, s_mo_putA _ _ _⟩, (List.forall_mem_cons.mpr ⟨s_r0 mk_89 dX10_init_68, (fun _ h => absurd h List.not_mem_nil)⟩)⟩)
theorem km_89 : ∀ t ∈ tm_89, s_tok 89 t := (List.forall_mem_cons.mpr ⟨s_lift mk_89 kb_89_0, (List.forall_mem_cons.mpr ⟨s_lift mk_89 kb_89_1, (fun _ h => absurd h List.not_mem_nil)⟩)⟩)
theorem dX10_look_0 : decode cX10_look 0 = .ok (.aload_n 0, 1) := by decide +kernel
theorem dX10_look_1 : decode cX10_look 1 = .ok (.iload_n 2, 1) := by decide +kernel
theorem dX10_look_2 : decode cX10_look 2 = .ok (.putfield 9, 3) := by decide +kernel
theorem dX10_look_5 : decode cX10_look 5 = .ok (.aload_n 0, 1) := by decide +kernel
theorem dX10_look_6 : decode cX10_look 6 = .ok (.iload_n 3, 1) := by decide +kernel
theorem dX10_look_7 : decode cX10_look 7 = .ok (.putfield 15, 3) := by decide +kernel
theorem dX10_look_10 : decode cX10_look 10 = .ok (.aload_n 0, 1) := by decide +kernel
theorem dX10_look_11 : decode cX10_look 11 = .ok (.iload 4, 2) := by decide +kernel
theorem dX10_look_13 : decode cX10_look 13 = .ok (.putfield 18, 3) := by decide +kernel
theorem dX10_look_16 : decode cX10_look 16 = .ok (.aload_n 0, 1) := by decide +kernel
theorem dX10_look_17 : decode cX10_look 17 = .ok (.getfield 21, 3) := by decide +kernel
theorem dX10_look_20 : decode cX10_look 20 = .ok (.iconst 0, 1) := by decide +kernel
theorem dX10_look_21 : decode cX10_look 21 = .ok (.invokestatic 40, 3) := by decide +kernel
theorem dX10_look_24 : decode cX10_look 24 = .ok (.iconst 0, 1) := by decide +kernel
theorem dX10_look_25 : decode cX10_look 25 = .ok (.istore 5, 2) := by decide +kernel
theorem dX10_look_27 : decode cX10_look 27 = .ok (.iload 5, 2) := by decide +kernel
theorem dX10_look_29 : decode cX10_look 29 = .ok (.aload_n 1, 1) := by decide +kernel
theorem dX10_look_30 : decode cX10_look 30 = .ok (.getfield 46, 3) := by decide +kernel
theorem dX10_look_33 : decode cX10_look 33 = .ok (.if_icmp .ge 16, 3) := by decide +kernel
theorem dX10_look_36 : decode cX10_look 36 = .ok (.aload_n 0, 1) := by decide +kernel
theorem dX10_look_37 : decode cX10_look 37 = .ok (.aload_n 1, 1) := by decide +kernel
theorem dX10_look_38 : decode cX10_look 38 = .ok (.iload 5, 2) := by decide +kernel
theorem dX10_look_40 : decode cX10_look 40 = .ok (.invokevirtual 51, 3) := by decide +kernel
theorem dX10_look_43 : decode cX10_look 43 = .ok (.iinc 5 1, 3) := by decide +kernel
theorem dX10_look_46 : decode cX10_look 46 = .ok (.goto (-19), 3) := by decide +kernel
theorem dX10_look_49 : decode cX10_look 49 = .ok (.iconst 0, 1) := by decide +kernel
theorem dX10_look_50 : decode cX10_look 50 = .ok (.istore 5, 2) := by decide +kernel
theorem dX10_look_52 : decode cX10_look 52 = .ok (.iload 5, 2) := by decide +kernel
theorem dX10_look_54 : decode cX10_look 54 = .ok (.aload_n 1, 1) := by decide +kernel
theorem dX10_look_55 : decode cX10_look 55 = .ok (.getfield 55, 3) := by decide +kernel
theorem dX10_look_58 : decode cX10_look 58 = .ok (.if_icmp .ge 73, 3) := by decide +kernel
theorem dX10_look_61 : decode cX10_look 61 = .ok (.aload_n 1, 1) := by decide +kernel
theorem dX10_look_62 : decode cX10_look 62 = .ok (.getfield 58, 3) := by decide +kernel
theorem dX10_look_65 : decode cX10_look 65 = .ok (.iload 5, 2) := by decide +kernel
theorem dX10_look_67 : decode cX10_look 67 = .ok (.iaload, 1) := by decide +kernel
theorem dX10_look_68 : decode cX10_look 68 = .ok (.iconst 3, 1) := by decide +kernel
theorem dX10_look_69 : decode cX10_look 69 = .ok (.if_icmp .lt 7, 3) := by decide +kernel
theorem dX10_look_72 : decode cX10_look 72 = .ok (.iconst 1, 1) := by decide +kernel
theorem dX10_look_73 : decode cX10_look 73 = .ok (.goto 4, 3) := by decide +kernel
theorem dX10_look_76 : decode cX10_look 76 = .ok (.iconst 0, 1) := by decide +kernel
theorem dX10_look_77 : decode cX10_look 77 = .ok (.istore 6, 2) := by decide +kernel
theorem dX10_look_79 : decode cX10_look 79 = .ok (.aload_n 0, 1) := by decide +kernel
theorem dX10_look_80 : decode cX10_look 80 = .ok (.getfield 25, 3) := by decide +kernel
theorem dX10_look_83 : decode cX10_look 83 = .ok (.iload 5, 2) := by decide +kernel
theorem dX10_look_85 : decode cX10_look 85 = .ok (.iload 6, 2) := by decide +kernel
theorem dX10_look_87 : decode cX10_look 87 = .ok (.ifCond .eq 7, 3) := by decide +kernel
theorem dX10_look_90 : decode cX10_look 90 = .ok (.iconst (-1), 1) := by decide +kernel
theorem dX10_look_91 : decode cX10_look 91 = .ok (.goto 9, 3) := by decide +kernel
theorem dX10_look_94 : decode cX10_look 94 = .ok (.aload_n 1, 1) := by decide +kernel
theorem dX10_look_95 : decode cX10_look 95 = .ok (.iload 5, 2) := by decide +kernel
theorem dX10_look_97 : decode cX10_look 97 = .ok (.invokevirtual 61, 3) := by decide +kernel
theorem dX10_look_100 : decode cX10_look 100 = .ok (.iastore, 1) := by decide +kernel
theorem dX10_look_101 : decode cX10_look 101 = .ok (.aload_n 0, 1) := by decide +kernel
theorem dX10_look_102 : decode cX10_look 102 = .ok (.getfield 28, 3) := by decide +kernel
theorem dX10_look_105 : decode cX10_look 105 = .ok (.iload 5, 2) := by decide +kernel
theorem dX10_look_107 : decode cX10_look 107 = .ok (.iload 6, 2) := by decide +kernel
theorem dX10_look_109 : decode cX10_look 109 = .ok (.ifCond .eq 7, 3) := by decide +kernel
theorem dX10_look_112 : decode cX10_look 112 = .ok (.iconst (-1), 1) := by decide +kernel
theorem dX10_look_113 : decode cX10_look 113 = .ok (.goto 11, 3) := by decide +kernel
theorem dX10_look_116 : decode cX10_look 116 = .ok (.aload_n 1, 1) := by decide +kernel
theorem dX10_look_117 : decode cX10_look 117 = .ok (.iload 5, 2) := by decide +kernel
theorem dX10_look_119 : decode cX10_look 119 = .ok (.bipush 9, 2) := by decide +kernel
theorem dX10_look_121 : decode cX10_look 121 = .ok (.invokevirtual 64, 3) := by decide +kernel
theorem dX10_look_124 : decode cX10_look 124 = .ok (.iastore, 1) := by decide +kernel
theorem dX10_look_125 : decode cX10_look 125 = .ok (.iinc 5 1, 3) := by decide +kernel
theorem dX10_look_128 : decode cX10_look 128 = .ok (.goto (-76), 3) := by decide +kernel
theorem dX10_look_131 : decode cX10_look 131 = .ok (.return_, 1) := by decide +kernel
set_option maxRecDepth 20000 in
theorem kb_90_0 : ∀ q ∈ tb_90_0, s_atx 90 yX10_look cX10_look q.1 q.2 := (List.forall_mem_cons.mpr ⟨⟨s_ldAn dX10_look_0 rfl, s_mo_ldA _ _⟩, (List.forall_mem_cons.mpr ⟨⟨s_ldIn dX10_look_1 rfl, s_mo_ldI _ _⟩, (List.forall_mem_cons.mpr ⟨⟨s_putI (ci := 6) (k := 0) rfl (by decide) inX10 tyX10_ok nmX10 rfl rfl w_255 dX10_look_2, s_mo_putI _ _ _⟩, (List.forall_mem_cons.mpr ⟨⟨s_ldAn dX10_look_5 rfl, s_mo_ldA _ _⟩, (List.forall_mem_cons.mpr ⟨⟨s_ldIn dX10_look_6 rfl, s_mo_ldI _ _⟩, (List.forall_mem_cons.mpr ⟨⟨s_putI (ci := 6) (k := 1) rfl (by decide) inX10 tyX10_ok nmX10 rfl rfl w_256 dX10_look_7, s_mo_putI _ _ _⟩, (List.forall_mem_cons.mpr ⟨⟨s_ldAn dX10_look_10 rfl, s_mo_ldA _ _⟩, (List.forall_mem_cons.mpr ⟨⟨s_ldI dX10_look_11, s_mo_ldI _ _⟩, (List.forall_mem_cons.mpr ⟨⟨s_putI (ci := 6) (k := 2) rfl (by decide) inX10 tyX10_ok nmX10 rfl rfl w_257 dX10_look_13, s_mo_putI _ _ _⟩, (List.forall_mem_cons.mpr ⟨⟨s_ldAn dX10_look_16 rfl, s_mo_ldA _ _⟩, (List.forall_mem_cons.mpr ⟨⟨s_getf (ci := 6) (k := 3) rfl (by decide) inX10 w_258 dX10_look_17, s_mo_getf _ _ _⟩, (List.forall_mem_cons.mpr ⟨⟨s_iconst dX10_look_20 (by decide +kernel), s_mo_push _ _⟩, (List.forall_mem_cons.mpr ⟨⟨s_sS mk_90 mk_262 ok_262 (by decide +kernel) dX10_look_21 w_1059 w_48, s_h0 mk_90⟩, (List.forall_mem_cons.mpr ⟨⟨s_iconst dX10_look_24 (by decide +kernel), s_mo_push _ _⟩, (List.forall_mem_cons.mpr ⟨⟨s_stI dX10_look_25, s_mo_stI _ _⟩, (List.forall_mem_cons.mpr ⟨⟨s_ldI dX10_look_27, s_mo_ldI _ _⟩, (List.forall_mem_cons.mpr ⟨⟨s_ldAn dX10_look_29 rfl, s_mo_ldA _ _⟩, (List.forall_mem_cons.mpr ⟨⟨s_getf (ci := 0) (k := 12) rfl (by decide) inX0 w_103 dX10_look_30, s_mo_getf _ _ _⟩, (List.forall_mem_cons.mpr ⟨⟨s_icge dX10_look_33 (by decide), s_mo_icge _ _⟩, (List.forall_mem_cons.mpr ⟨⟨s_ldAn dX10_look_36 rfl, s_mo_ldA _ _⟩, (List.forall_mem_cons.mpr ⟨⟨s_ldAn dX10_look_37 rfl, s_mo_ldA _ _⟩, (List.forall_mem_cons.mpr ⟨⟨s_ldI dX10_look_38, s_mo_ldI _ _⟩, (List.forall_mem_cons.mpr ⟨⟨s_sV mk_90 mk_91 ok_91 (by decide +kernel) dX10_look_40 w_1060 w_1062 wp_18 (Or.inr ⟨6, _, _, rfl, rfl⟩), s_h0 mk_90⟩, (List.forall_mem_cons.mpr ⟨⟨s_inc dX10_look_43 (by decide +kernel), s_mo_inc _ _ _⟩, (List.forall_mem_cons.mpr ⟨⟨s_goto dX10_look_46 (by decide), s_mo_goto _⟩, (List.forall_mem_cons.mpr ⟨⟨s_iconst dX10_look_49 (by decide +kernel), s_mo_push _ _⟩, (List.forall_mem_cons.mpr ⟨⟨s_stI dX10_look_50, s_mo_stI _ _⟩, (List.forall_mem_cons.mpr ⟨⟨s_ldI dX10_look_52, s_mo_ldI _ _⟩, (List.forall_mem_cons.mpr ⟨⟨s_ldAn dX10_look_54 rfl, s_mo_ldA _ _⟩, (List.forall_mem_cons.mpr ⟨⟨s_getf (ci := 0) (k := 2) rfl (by decide) inX0 w_60 dX10_look_55, s_mo_getf _ _ _⟩, (List.forall_mem_cons.mpr ⟨⟨s_icge dX10_look_58 (by decide), s_mo_icge _ _⟩, (List.forall_mem_cons.mpr ⟨⟨s_ldAn dX10_look_61 rfl, s_mo_ldA _ _⟩, (List.forall_mem_cons.mpr ⟨⟨s_getf (ci := 0) (k := 9) rfl (by decide) inX0 w_90 dX10_look_62, s_mo_getf _ _ _⟩, (fun _ h => absurd h List.not_mem_nil)⟩)⟩)⟩)⟩)⟩)⟩)⟩)⟩)⟩)⟩)⟩)⟩)⟩)⟩)⟩)⟩)⟩)⟩)⟩)⟩)⟩)⟩)⟩)⟩)⟩)⟩)⟩)⟩)⟩)⟩)⟩)⟩)⟩)
set_option maxRecDepth 20000 in
theorem kb_90_1 : ∀ q ∈ tb_90_1, s_atx 90 yX10_look cX10_look q.1 q.2 := (List.forall_mem_cons.mpr ⟨⟨s_ldI dX10_look_65, s_mo_ldI _ _⟩, (List.forall_mem_cons.mpr ⟨⟨s_iald dX10_look_67, s_mo_iald _⟩, (List.forall_mem_cons.mpr ⟨⟨s_iconst dX10_look_68 (by decide +kernel), s_mo_push _ _⟩, (List.forall_mem_cons.mpr ⟨⟨s_iclt dX10_look_69 (by decide), s_mo_iclt _ _⟩, (List.forall_mem_cons.mpr ⟨⟨s_iconst dX10_look_72 (by decide +kernel), s_mo_push _ _⟩, (List.forall_mem_cons.mpr ⟨⟨s_goto dX10_look_73 (by decide), s_mo_goto _⟩, (List.forall_mem_cons.mpr ⟨⟨s_iconst dX10_look_76 (by decide +kernel), s_mo_push _ _⟩, (List.forall_mem_cons.mpr ⟨⟨s_stI dX10_look_77, s_mo_stI _ _⟩, (List.forall_mem_cons.mpr ⟨⟨s_ldAn dX10_look_79 rfl, s_mo_ldA _ _⟩, (List.forall_mem_cons.mpr ⟨⟨s_getf (ci := 6) (k := 4) rfl (by decide) inX10 w_259 dX10_look_80, s_mo_getf _ _ _⟩, (List.forall_mem_cons.mpr ⟨⟨s_ldI dX10_look_83, s_mo_ldI _ _⟩, (List.forall_mem_cons.mpr ⟨⟨s_ldI dX10_look_85, s_mo_ldI _ _⟩, (List.forall_mem_cons.mpr ⟨⟨s_ifeq dX10_look_87 (by decide), s_mo_ifeq _ _⟩, (List.forall_mem_cons.mpr ⟨⟨s_iconst dX10_look_90 (by decide +kernel), s_mo_push _ _⟩, (List.forall_mem_cons.mpr ⟨⟨s_goto dX10_look_91 (by decide), s_mo_goto _⟩, (List.forall_mem_cons.mpr ⟨⟨s_ldAn dX10_look_94 rfl, s_mo_ldA _ _⟩, (List.forall_mem_cons.mpr ⟨⟨s_ldI dX10_look_95, s_mo_ldI _ _⟩, (List.forall_mem_cons.mpr ⟨⟨s_sV mk_90 mk_7 ok_7 (by decide +kernel) dX10_look_97 w_1066 w_782 w_783 (Or.inr ⟨0, _, _, rfl, rfl⟩), s_h0 mk_90⟩, (List.forall_mem_cons.mpr ⟨⟨s_iast dX10_look_100, s_mo_iast _⟩, (List.forall_mem_cons.mpr ⟨⟨s_ldAn dX10_look_101 rfl, s_mo_ldA _ _⟩, (List.forall_mem_cons.mpr ⟨⟨s_getf (ci := 6) (k := 5) rfl (by decide) inX10 w_260 dX10_look_102, s_mo_getf _ _ _⟩, (List.forall_mem_cons.mpr ⟨⟨s_ldI dX10_look_105, s_mo_ldI _ _⟩, (List.forall_mem_cons.mpr ⟨⟨s_ldI dX10_look_107, s_mo_ldI _ _⟩, (List.forall_mem_cons.mpr ⟨⟨s_ifeq dX10_look_109 (by decide), s_mo_ifeq _ _⟩, (List.forall_mem_cons.mpr ⟨⟨s_iconst dX10_look_112 (by decide +kernel), s_mo_push _ _⟩, (List.forall_mem_cons.mpr ⟨⟨s_goto dX10_look_113 (by decide), s_mo_goto _⟩, (List.forall_mem_cons.mpr ⟨⟨s_ldAn dX10_look_116 rfl, s_mo_ldA _ _⟩, (List.forall_mem_cons.mpr ⟨⟨s_ldI dX10_look_117, s_mo_ldI _ _⟩, (List.forall_mem_cons.mpr ⟨⟨s_bipush dX10_look_119 (by decide +kernel), s_mo_push _ _⟩, (List.forall_mem_cons.mpr ⟨⟨s_sV mk_90 mk_8 ok_8 (by decide +kernel) dX10_look_121 w_1067 w_786 w_787 (Or.inr ⟨0, _, _, rfl, rfl⟩), s_h0 mk_90⟩, (List.forall_mem_cons.mpr ⟨⟨s_iast dX10_look_124, s_mo_iast _⟩, (List.forall_mem_cons.mpr ⟨⟨s_inc dX10_look_125 (by decide +kernel), s_mo_inc _ _ _⟩, (fun _ h => absurd h List.not_mem_nil)⟩)⟩)⟩)⟩)⟩)⟩)⟩)⟩)⟩)⟩)⟩)⟩)⟩)⟩)⟩)⟩)⟩)⟩)⟩)⟩)⟩)⟩)⟩)⟩)⟩)⟩)⟩)⟩)⟩)⟩)⟩)⟩)
set_option maxRecDepth 20000 in
theorem kb_90_2 : ∀ q ∈ tb_90_2, s_atx 90 yX10_look cX10_look q.1 q.2 := (List.forall_mem_cons.mpr ⟨⟨s_goto dX10_look_128 (by decide), s_mo_goto _⟩, (List.forall_mem_cons.mpr ⟨s_r0 mk_90 dX10_look_131, (fun _ h => absurd h List.not_mem_nil)⟩)⟩)
theorem km_90 : ∀ t ∈ tm_90, s_tok 90 t := (List.forall_mem_cons.mpr ⟨s_lift mk_90 kb_90_0, (List.forall_mem_cons.mpr ⟨s_lift mk_90 kb_90_1, (List.forall_mem_cons.mpr ⟨s_lift mk_90 kb_90_2, (fun _ h => absurd h List.not_mem_nil)⟩)⟩)⟩)
theorem dX10_addLoad_0 : decode cX10_addLoad 0 = .ok (.aload_n 1, 1) := by decide +kernel
theorem dX10_addLoad_1 : decode cX10_addLoad 1 = .ok (.getfield 68, 3) := by decide +kernel
theorem dX10_addLoad_4 : decode cX10_addLoad 4 = .ok (.iconst 5, 1) := by decide +kernel
theorem dX10_addLoad_5 : decode cX10_addLoad 5 = .ok (.iload_n 2, 1) := by decide +kernel
theorem dX10_addLoad_6 : decode cX10_addLoad 6 = .ok (.imul, 1) := by decide +kernel
theorem dX10_addLoad_7 : decode cX10_addLoad 7 = .ok (.iconst 1, 1) := by decide +kernel
theorem dX10_addLoad_8 : decode cX10_addLoad 8 = .ok (.iadd, 1) := by decide +kernel
theorem dX10_addLoad_9 : decode cX10_addLoad 9 = .ok (.iaload, 1) := by decide +kernel
theorem dX10_addLoad_10 : decode cX10_addLoad 10 = .ok (.istore_n 3, 1) := by decide +kernel
theorem dX10_addLoad_11 : decode cX10_addLoad 11 = .ok (.iconst 0, 1) := by decide +kernel
theorem dX10_addLoad_12 : decode cX10_addLoad 12 = .ok (.istore 4, 2) := by decide +kernel
theorem dX10_addLoad_14 : decode cX10_addLoad 14 = .ok (.iload 4, 2) := by decide +kernel
theorem dX10_addLoad_16 : decode cX10_addLoad 16 = .ok (.bipush 24, 2) := by decide +kernel
theorem dX10_addLoad_18 : decode cX10_addLoad 18 = .ok (.if_icmp .ge 39, 3) := by decide +kernel
theorem dX10_addLoad_21 : decode cX10_addLoad 21 = .ok (.aload_n 1, 1) := by decide +kernel
theorem dX10_addLoad_22 : decode cX10_addLoad 22 = .ok (.iload_n 2, 1) := by decide +kernel
theorem dX10_addLoad_23 : decode cX10_addLoad 23 = .ok (.iload 4, 2) := by decide +kernel
theorem dX10_addLoad_25 : decode cX10_addLoad 25 = .ok (.invokevirtual 71, 3) := by decide +kernel
theorem dX10_addLoad_28 : decode cX10_addLoad 28 = .ok (.ifCond .eq 23, 3) := by decide +kernel
theorem dX10_addLoad_31 : decode cX10_addLoad 31 = .ok (.aload_n 0, 1) := by decide +kernel
theorem dX10_addLoad_32 : decode cX10_addLoad 32 = .ok (.getfield 21, 3) := by decide +kernel
theorem dX10_addLoad_35 : decode cX10_addLoad 35 = .ok (.bipush 30, 2) := by decide +kernel
theorem dX10_addLoad_37 : decode cX10_addLoad 37 = .ok (.iload 4, 2) := by decide +kernel
theorem dX10_addLoad_39 : decode cX10_addLoad 39 = .ok (.imul, 1) := by decide +kernel
theorem dX10_addLoad_40 : decode cX10_addLoad 40 = .ok (.iload_n 3, 1) := by decide +kernel
theorem dX10_addLoad_41 : decode cX10_addLoad 41 = .ok (.iadd, 1) := by decide +kernel
theorem dX10_addLoad_42 : decode cX10_addLoad 42 = .ok (.dup2, 1) := by decide +kernel
theorem dX10_addLoad_43 : decode cX10_addLoad 43 = .ok (.iaload, 1) := by decide +kernel
theorem dX10_addLoad_44 : decode cX10_addLoad 44 = .ok (.aload_n 1, 1) := by decide +kernel
theorem dX10_addLoad_45 : decode cX10_addLoad 45 = .ok (.iload_n 2, 1) := by decide +kernel
theorem dX10_addLoad_46 : decode cX10_addLoad 46 = .ok (.invokevirtual 75, 3) := by decide +kernel
theorem dX10_addLoad_49 : decode cX10_addLoad 49 = .ok (.iadd, 1) := by decide +kernel
theorem dX10_addLoad_50 : decode cX10_addLoad 50 = .ok (.iastore, 1) := by decide +kernel
theorem dX10_addLoad_51 : decode cX10_addLoad 51 = .ok (.iinc 4 1, 3) := by decide +kernel
theorem dX10_addLoad_54 : decode cX10_addLoad 54 = .ok (.goto (-40), 3) := by decide +kernel
theorem dX10_addLoad_57 : decode cX10_addLoad 57 = .ok (.return_, 1) := by decide +kernel
set_option maxRecDepth 20000 in
theorem kb_91_0 : ∀ q ∈ tb_91_0, s_atx 91 yX10_addLoad cX10_addLoad q.1 q.2 := (List.forall_mem_cons.mpr ⟨⟨s_ldAn dX10_addLoad_0 rfl, s_mo_ldA _ _⟩, (List.forall_mem_cons.mpr ⟨⟨s_getf (ci := 0) (k := 13) rfl (by decide) inX0 w_108 dX10_addLoad_1, s_mo_getf _ _ _⟩, (List.forall_mem_cons.mpr ⟨⟨s_iconst dX10_addLoad_4 (by decide +kernel), s_mo_push _ _⟩, (List.forall_mem_cons.mpr ⟨⟨s_ldIn dX10_addLoad_5 rfl, s_mo_ldI _ _⟩, (List.forall_mem_cons.mpr ⟨⟨s_imul dX10_addLoad_6, s_mo_bin _ _⟩, (List.forall_mem_cons.mpr ⟨⟨s_iconst dX10_addLoad_7 (by decide +kernel), s_mo_push _ _⟩, (List.forall_mem_cons.mpr ⟨⟨s_iadd dX10_addLoad_8, s_mo_bin _ _⟩, (List.forall_mem_cons.mpr ⟨⟨s_iald dX10_addLoad_9, s_mo_iald _⟩, (List.forall_mem_cons.mpr ⟨⟨s_stIn dX10_addLoad_10 rfl, s_mo_stI _ _⟩, (List.forall_mem_cons.mpr ⟨⟨s_iconst dX10_addLoad_11 (by decide +kernel), s_mo_push _ _⟩, (List.forall_mem_cons.mpr ⟨⟨s_stI dX10_addLoad_12, s_mo_stI _ _⟩, (List.forall_mem_cons.mpr ⟨⟨s_ldI dX10_addLoad_14, s_mo_ldI _ _⟩, (List.forall_mem_cons.mpr ⟨⟨s_bipush dX10_addLoad_16 (by decide +kernel), s_mo_push _ _⟩, (List.forall_mem_cons.mpr ⟨⟨s_icge dX10_addLoad_18 (by decide), s_mo_icge _ _⟩, (List.forall_mem_cons.mpr ⟨⟨s_ldAn dX10_addLoad_21 rfl, s_mo_ldA _ _⟩, (List.forall_mem_cons.mpr ⟨⟨s_ldIn dX10_addLoad_22 rfl, s_mo_ldI _ _⟩, (List.forall_mem_cons.mpr ⟨⟨s_ldI dX10_addLoad_23, s_mo_ldI _ _⟩, (List.forall_mem_cons.mpr ⟨⟨s_sV mk_91 mk_9 ok_9 (by decide +kernel) dX10_addLoad_25 w_1064 w_845 w_846 (Or.inr ⟨0, _, _, rfl, rfl⟩), s_h0 mk_91⟩, (List.forall_mem_cons.mpr ⟨⟨s_ifeq dX10_addLoad_28 (by decide), s_mo_ifeq _ _⟩, (List.forall_mem_cons.mpr ⟨⟨s_ldAn dX10_addLoad_31 rfl, s_mo_ldA _ _⟩, (List.forall_mem_cons.mpr ⟨⟨s_getf (ci := 6) (k := 3) rfl (by decide) inX10 w_258 dX10_addLoad_32, s_mo_getf _ _ _⟩, (List.forall_mem_cons.mpr ⟨⟨s_bipush dX10_addLoad_35 (by decide +kernel), s_mo_push _ _⟩, (List.forall_mem_cons.mpr ⟨⟨s_ldI dX10_addLoad_37, s_mo_ldI _ _⟩, (List.forall_mem_cons.mpr ⟨⟨s_imul dX10_addLoad_39, s_mo_bin _ _⟩, (List.forall_mem_cons.mpr ⟨⟨s_ldIn dX10_addLoad_40 rfl, s_mo_ldI _ _⟩, (List.forall_mem_cons.mpr ⟨⟨s_iadd dX10_addLoad_41, s_mo_bin _ _⟩, (List.forall_mem_cons.mpr ⟨⟨s_dup2 dX10_addLoad_42, s_mo_dup2 _⟩, (List.forall_mem_cons.mpr ⟨⟨s_iald dX10_addLoad_43, s_mo_iald _⟩, (List.forall_mem_cons.mpr ⟨⟨s_ldAn dX10_addLoad_44 rfl, s_mo_ldA _ _⟩, (List.forall_mem_cons.mpr ⟨⟨s_ldIn dX10_addLoad_45 rfl, s_mo_ldI _ _⟩, (List.forall_mem_cons.mpr ⟨⟨s_sV mk_91 mk_10 ok_10 (by decide +kernel) dX10_addLoad_46 w_1065 w_849 w_850 (Or.inr ⟨0, _, _, rfl, rfl⟩), s_h0 mk_91⟩, (List.forall_mem_cons.mpr ⟨⟨s_iadd dX10_addLoad_49, s_mo_bin _ _⟩, (List.forall_mem_cons.mpr ⟨⟨s_iast dX10_addLoad_50, s_mo_iast _⟩, (List.forall_mem_cons.mpr ⟨⟨s_inc dX10_addLoad_51 (by decide +kernel), s_mo_inc _ _ _⟩, (List.forall_mem_cons.mpr ⟨⟨s_goto dX10_addLoad_54 (by decide), s_mo_goto _⟩, (List.forall_mem_cons.mpr ⟨s_r0 mk_91 dX10_addLoad_57, (fun _ h => absurd h List.not_mem_nil)⟩)⟩)⟩)⟩)⟩)⟩)⟩)⟩)⟩)⟩)⟩)⟩)⟩)⟩)⟩)⟩)⟩)⟩)⟩)⟩)⟩)⟩)⟩)⟩)⟩)⟩)⟩)⟩)⟩)⟩)⟩)⟩)⟩)⟩)⟩)⟩)
theorem km_91 : ∀ t ∈ tm_91, s_tok 91 t := (List.forall_mem_cons.mpr ⟨s_lift mk_91 kb_91_0, (fun _ h => absurd h List.not_mem_nil)⟩)
theorem dX10_fillOpen_0 : decode cX10_fillOpen 0 = .ok (.iconst 0, 1) := by decide +kernel
theorem dX10_fillOpen_1 : decode cX10_fillOpen 1 = .ok (.istore 5, 2) := by decide +kernel
theorem dX10_fillOpen_3 : decode cX10_fillOpen 3 = .ok (.iload 5, 2) := by decide +kernel
theorem dX10_fillOpen_5 : decode cX10_fillOpen 5 = .ok (.bipush 24, 2) := by decide +kernel
theorem dX10_fillOpen_7 : decode cX10_fillOpen 7 = .ok (.if_icmp .ge 68, 3) := by decide +kernel
theorem dX10_fillOpen_10 : decode cX10_fillOpen 10 = .ok (.iconst 0, 1) := by decide +kernel
theorem dX10_fillOpen_11 : decode cX10_fillOpen 11 = .ok (.istore 6, 2) := by decide +kernel
theorem dX10_fillOpen_13 : decode cX10_fillOpen 13 = .ok (.iconst 0, 1) := by decide +kernel
theorem dX10_fillOpen_14 : decode cX10_fillOpen 14 = .ok (.istore 7, 2) := by decide +kernel
theorem dX10_fillOpen_16 : decode cX10_fillOpen 16 = .ok (.iload 7, 2) := by decide +kernel
theorem dX10_fillOpen_18 : decode cX10_fillOpen 18 = .ok (.aload_n 1, 1) := by decide +kernel
theorem dX10_fillOpen_19 : decode cX10_fillOpen 19 = .ok (.getfield 55, 3) := by decide +kernel
theorem dX10_fillOpen_22 : decode cX10_fillOpen 22 = .ok (.if_icmp .ge 41, 3) := by decide +kernel
theorem dX10_fillOpen_25 : decode cX10_fillOpen 25 = .ok (.aload_n 0, 1) := by decide +kernel
theorem dX10_fillOpen_26 : decode cX10_fillOpen 26 = .ok (.getfield 21, 3) := by decide +kernel
theorem dX10_fillOpen_29 : decode cX10_fillOpen 29 = .ok (.bipush 30, 2) := by decide +kernel
theorem dX10_fillOpen_31 : decode cX10_fillOpen 31 = .ok (.iload 5, 2) := by decide +kernel
theorem dX10_fillOpen_33 : decode cX10_fillOpen 33 = .ok (.imul, 1) := by decide +kernel
theorem dX10_fillOpen_34 : decode cX10_fillOpen 34 = .ok (.iload 7, 2) := by decide +kernel
theorem dX10_fillOpen_36 : decode cX10_fillOpen 36 = .ok (.iadd, 1) := by decide +kernel
theorem dX10_fillOpen_37 : decode cX10_fillOpen 37 = .ok (.iaload, 1) := by decide +kernel
theorem dX10_fillOpen_38 : decode cX10_fillOpen 38 = .ok (.iload 4, 2) := by decide +kernel
theorem dX10_fillOpen_40 : decode cX10_fillOpen 40 = .ok (.iadd, 1) := by decide +kernel
theorem dX10_fillOpen_41 : decode cX10_fillOpen 41 = .ok (.aload_n 3, 1) := by decide +kernel
theorem dX10_fillOpen_42 : decode cX10_fillOpen 42 = .ok (.iload 7, 2) := by decide +kernel
theorem dX10_fillOpen_44 : decode cX10_fillOpen 44 = .ok (.iaload, 1) := by decide +kernel
theorem dX10_fillOpen_45 : decode cX10_fillOpen 45 = .ok (.if_icmp .gt 12, 3) := by decide +kernel
theorem dX10_fillOpen_48 : decode cX10_fillOpen 48 = .ok (.iload 6, 2) := by decide +kernel
theorem dX10_fillOpen_50 : decode cX10_fillOpen 50 = .ok (.iconst 1, 1) := by decide +kernel
theorem dX10_fillOpen_51 : decode cX10_fillOpen 51 = .ok (.iload 7, 2) := by decide +kernel
theorem dX10_fillOpen_53 : decode cX10_fillOpen 53 = .ok (.ishl, 1) := by decide +kernel
theorem dX10_fillOpen_54 : decode cX10_fillOpen 54 = .ok (.ior, 1) := by decide +kernel
theorem dX10_fillOpen_55 : decode cX10_fillOpen 55 = .ok (.istore 6, 2) := by decide +kernel
theorem dX10_fillOpen_57 : decode cX10_fillOpen 57 = .ok (.iinc 7 1, 3) := by decide +kernel
theorem dX10_fillOpen_60 : decode cX10_fillOpen 60 = .ok (.goto (-44), 3) := by decide +kernel
theorem dX10_fillOpen_63 : decode cX10_fillOpen 63 = .ok (.aload_n 2, 1) := by decide +kernel
theorem dX10_fillOpen_64 : decode cX10_fillOpen 64 = .ok (.iload 5, 2) := by decide +kernel
theorem dX10_fillOpen_66 : decode cX10_fillOpen 66 = .ok (.iload 6, 2) := by decide +kernel
theorem dX10_fillOpen_68 : decode cX10_fillOpen 68 = .ok (.iastore, 1) := by decide +kernel
theorem dX10_fillOpen_69 : decode cX10_fillOpen 69 = .ok (.iinc 5 1, 3) := by decide +kernel
theorem dX10_fillOpen_72 : decode cX10_fillOpen 72 = .ok (.goto (-69), 3) := by decide +kernel
theorem dX10_fillOpen_75 : decode cX10_fillOpen 75 = .ok (.return_, 1) := by decide +kernel
set_option maxRecDepth 20000 in
theorem kb_92_0 : ∀ q ∈ tb_92_0, s_atx 92 yX10_fillOpen cX10_fillOpen q.1 q.2 := (List.forall_mem_cons.mpr ⟨⟨s_iconst dX10_fillOpen_0 (by decide +kernel), s_mo_push _ _⟩, (List.forall_mem_cons.mpr ⟨⟨s_stI dX10_fillOpen_1, s_mo_stI _ _⟩, (List.forall_mem_cons.mpr ⟨⟨s_ldI dX10_fillOpen_3, s_mo_ldI _ _⟩, (List.forall_mem_cons.mpr ⟨⟨s_bipush dX10_fillOpen_5 (by decide +kernel), s_mo_push _ _⟩, (List.forall_mem_cons.mpr ⟨⟨s_icge dX10_fillOpen_7 (by decide), s_mo_icge _ _⟩, (List.forall_mem_cons.mpr ⟨⟨s_iconst dX10_fillOpen_10 (by decide +kernel), s_mo_push _ _⟩, (List.forall_mem_cons.mpr ⟨⟨s_stI dX10_fillOpen_11, s_mo_stI _ _⟩, (List.forall_mem_cons.mpr ⟨⟨s_iconst dX10_fillOpen_13 (by decide +kernel), s_mo_push _ _⟩, (List.forall_mem_cons.mpr ⟨⟨s_stI dX10_fillOpen_14, s_mo_stI _ _⟩, (List.forall_mem_cons.mpr ⟨⟨s_ldI dX10_fillOpen_16, s_mo_ldI _ _⟩, (List.forall_mem_cons.mpr ⟨⟨s_ldAn dX10_fillOpen_18 rfl, s_mo_ldA _ _⟩, (List.forall_mem_cons.mpr ⟨⟨s_getf (ci := 0) (k := 2) rfl (by decide) inX0 w_60 dX10_fillOpen_19, s_mo_getf _ _ _⟩, (List.forall_mem_cons.mpr ⟨⟨s_icge dX10_fillOpen_22 (by decide), s_mo_icge _ _⟩, (List.forall_mem_cons.mpr ⟨⟨s_ldAn dX10_fillOpen_25 rfl, s_mo_ldA _ _⟩, (List.forall_mem_cons.mpr ⟨⟨s_getf (ci := 6) (k := 3) rfl (by decide) inX10 w_258 dX10_fillOpen_26, s_mo_getf _ _ _⟩, (List.forall_mem_cons.mpr ⟨⟨s_bipush dX10_fillOpen_29 (by decide +kernel), s_mo_push _ _⟩, (List.forall_mem_cons.mpr ⟨⟨s_ldI dX10_fillOpen_31, s_mo_ldI _ _⟩, (List.forall_mem_cons.mpr ⟨⟨s_imul dX10_fillOpen_33, s_mo_bin _ _⟩, (List.forall_mem_cons.mpr ⟨⟨s_ldI dX10_fillOpen_34, s_mo_ldI _ _⟩, (List.forall_mem_cons.mpr ⟨⟨s_iadd dX10_fillOpen_36, s_mo_bin _ _⟩, (List.forall_mem_cons.mpr ⟨⟨s_iald dX10_fillOpen_37, s_mo_iald _⟩, (List.forall_mem_cons.mpr ⟨⟨s_ldI dX10_fillOpen_38, s_mo_ldI _ _⟩, (List.forall_mem_cons.mpr ⟨⟨s_iadd dX10_fillOpen_40, s_mo_bin _ _⟩, (List.forall_mem_cons.mpr ⟨⟨s_ldAn dX10_fillOpen_41 rfl, s_mo_ldA _ _⟩, (List.forall_mem_cons.mpr ⟨⟨s_ldI dX10_fillOpen_42, s_mo_ldI _ _⟩, (List.forall_mem_cons.mpr ⟨⟨s_iald dX10_fillOpen_44, s_mo_iald _⟩, (List.forall_mem_cons.mpr ⟨⟨s_icgt dX10_fillOpen_45 (by decide), s_mo_icgt _ _⟩, (List.forall_mem_cons.mpr ⟨⟨s_ldI dX10_fillOpen_48, s_mo_ldI _ _⟩, (List.forall_mem_cons.mpr ⟨⟨s_iconst dX10_fillOpen_50 (by decide +kernel), s_mo_push _ _⟩, (List.forall_mem_cons.mpr ⟨⟨s_ldI dX10_fillOpen_51, s_mo_ldI _ _⟩, (List.forall_mem_cons.mpr ⟨⟨s_ishl dX10_fillOpen_53, s_mo_bin _ _⟩, (List.forall_mem_cons.mpr ⟨⟨s_ior dX10_fillOpen_54, s_mo_bin _ _⟩, (List.forall_mem_cons.mpr ⟨⟨s_stI dX10_fillOpen_55, s_mo_stI _ _⟩, (List.forall_mem_cons.mpr ⟨⟨s_inc dX10_fillOpen_57 (by decide +kernel), s_mo_inc _ _ _⟩, (List.forall_mem_cons.mpr ⟨⟨s_goto dX10_fillOpen_60 (by decide), s_mo_goto _⟩, (List.forall_mem_cons.mpr ⟨⟨s_ldAn dX10_fillOpen_63 rfl, s_mo_ldA _ _⟩, (fun _ h => absurd h List.not_mem_nil)⟩)⟩)⟩)⟩)⟩)⟩)⟩)⟩)⟩)⟩)⟩)⟩)⟩)⟩)⟩)⟩)⟩)⟩)⟩)⟩)⟩)⟩)⟩)⟩)⟩)⟩)⟩)⟩)⟩)⟩)⟩)⟩)⟩)⟩)⟩)⟩)
set_option maxRecDepth 20000 in
theorem kb_92_1 : ∀ q ∈ tb_92_1, s_atx 92 yX10_fillOpen cX10_fillOpen q.1 q.2 := (List.forall_mem_cons.mpr ⟨⟨s_ldI dX10_fillOpen_64, s_mo_ldI _ _⟩, (List.forall_mem_cons.mpr ⟨⟨s_ldI dX10_fillOpen_66, s_mo_ldI _ _⟩, (List.forall_mem_cons.mpr ⟨⟨s_iast dX10_fillOpen_68, s_mo_iast _⟩, (List.forall_mem_cons.mpr ⟨⟨s_inc dX10_fillOpen_69 (by decide +kernel), s_mo_inc _ _ _⟩, (List.forall_mem_cons.mpr ⟨⟨s_goto dX10_fillOpen_72 (by decide), s_mo_goto _⟩, (List.forall_mem_cons.mpr ⟨s_r0 mk_92 dX10_fillOpen_75, (fun _ h => absurd h List.not_mem_nil)⟩)⟩)⟩)⟩)⟩)⟩)
theorem km_92 : ∀ t ∈ tm_92, s_tok 92 t := (List.forall_mem_cons.mpr ⟨s_lift mk_92 kb_92_0, (List.forall_mem_cons.mpr ⟨s_lift mk_92 kb_92_1, (fun _ h => absurd h List.not_mem_nil)⟩)⟩)
theorem dX10_hourBehind_0 : decode cX10_hourBehind 0 = .ok (.iload_n 0, 1) := by decide +kernel
theorem dX10_hourBehind_1 : decode cX10_hourBehind 1 = .ok (.bipush 23, 2) := by decide +kernel
theorem dX10_hourBehind_3 : decode cX10_hourBehind 3 = .ok (.if_icmp .ne 7, 3) := by decide +kernel
theorem dX10_hourBehind_6 : decode cX10_hourBehind 6 = .ok (.iconst 0, 1) := by decide +kernel
theorem dX10_hourBehind_7 : decode cX10_hourBehind 7 = .ok (.goto 6, 3) := by decide +kernel
theorem dX10_hourBehind_10 : decode cX10_hourBehind 10 = .ok (.iload_n 0, 1) := by decide +kernel
theorem dX10_hourBehind_11 : decode cX10_hourBehind 11 = .ok (.iconst 1, 1) := by decide +kernel
theorem dX10_hourBehind_12 : decode cX10_hourBehind 12 = .ok (.iadd, 1) := by decide +kernel
theorem dX10_hourBehind_13 : decode cX10_hourBehind 13 = .ok (.ireturn, 1) := by decide +kernel
set_option maxRecDepth 20000 in
theorem kb_93_0 : ∀ q ∈ tb_93_0, s_atx 93 yX10_hourBehind cX10_hourBehind q.1 q.2 := (List.forall_mem_cons.mpr ⟨⟨s_ldIn dX10_hourBehind_0 rfl, s_mo_ldI _ _⟩, (List.forall_mem_cons.mpr ⟨⟨s_bipush dX10_hourBehind_1 (by decide +kernel), s_mo_push _ _⟩, (List.forall_mem_cons.mpr ⟨⟨s_icne dX10_hourBehind_3 (by decide), s_mo_icne _ _⟩, (List.forall_mem_cons.mpr ⟨⟨s_iconst dX10_hourBehind_6 (by decide +kernel), s_mo_push _ _⟩, (List.forall_mem_cons.mpr ⟨⟨s_goto dX10_hourBehind_7 (by decide), s_mo_goto _⟩, (List.forall_mem_cons.mpr ⟨⟨s_ldIn dX10_hourBehind_10 rfl, s_mo_ldI _ _⟩, (List.forall_mem_cons.mpr ⟨⟨s_iconst dX10_hourBehind_11 (by decide +kernel), s_mo_push _ _⟩, (List.forall_mem_cons.mpr ⟨⟨s_iadd dX10_hourBehind_12, s_mo_bin _ _⟩, (List.forall_mem_cons.mpr ⟨s_r1 mk_93 dX10_hourBehind_13, (fun _ h => absurd h List.not_mem_nil)⟩)⟩)⟩)⟩)⟩)⟩)⟩)⟩)⟩)
theorem km_93 : ∀ t ∈ tm_93, s_tok 93 t := (List.forall_mem_cons.mpr ⟨s_lift mk_93 kb_93_0, (fun _ h => absurd h List.not_mem_nil)⟩)
theorem dX10_hoursWith_0 : decode cX10_hoursWith 0 = .ok (.aload_n 0, 1) := by decide +kernel
theorem dX10_hoursWith_1 : decode cX10_hoursWith 1 = .ok (.aload_n 1, 1) := by decide +kernel
theorem dX10_hoursWith_2 : decode cX10_hoursWith 2 = .ok (.aload_n 0, 1) := by decide +kernel
theorem dX10_hoursWith_3 : decode cX10_hoursWith 3 = .ok (.getfield 31, 3) := by decide +kernel
theorem dX10_hoursWith_6 : decode cX10_hoursWith 6 = .ok (.aload_n 0, 1) := by decide +kernel
theorem dX10_hoursWith_7 : decode cX10_hoursWith 7 = .ok (.getfield 25, 3) := by decide +kernel
theorem dX10_hoursWith_10 : decode cX10_hoursWith 10 = .ok (.iload_n 2, 1) := by decide +kernel
theorem dX10_hoursWith_11 : decode cX10_hoursWith 11 = .ok (.invokevirtual 78, 3) := by decide +kernel
theorem dX10_hoursWith_14 : decode cX10_hoursWith 14 = .ok (.aload_n 0, 1) := by decide +kernel
theorem dX10_hoursWith_15 : decode cX10_hoursWith 15 = .ok (.aload_n 1, 1) := by decide +kernel
theorem dX10_hoursWith_16 : decode cX10_hoursWith 16 = .ok (.iconst 0, 1) := by decide +kernel
theorem dX10_hoursWith_17 : decode cX10_hoursWith 17 = .ok (.invokevirtual 82, 3) := by decide +kernel
theorem dX10_hoursWith_20 : decode cX10_hoursWith 20 = .ok (.ireturn, 1) := by decide +kernel
set_option maxRecDepth 20000 in
theorem kb_94_0 : ∀ q ∈ tb_94_0, s_atx 94 yX10_hoursWith cX10_hoursWith q.1 q.2 := (List.forall_mem_cons.mpr ⟨⟨s_ldAn dX10_hoursWith_0 rfl, s_mo_ldA _ _⟩, (List.forall_mem_cons.mpr ⟨⟨s_ldAn dX10_hoursWith_1 rfl, s_mo_ldA _ _⟩, (List.forall_mem_cons.mpr ⟨⟨s_ldAn dX10_hoursWith_2 rfl, s_mo_ldA _ _⟩, (List.forall_mem_cons.mpr ⟨⟨s_getf (ci := 6) (k := 6) rfl (by decide) inX10 w_261 dX10_hoursWith_3, s_mo_getf _ _ _⟩, (List.forall_mem_cons.mpr ⟨⟨s_ldAn dX10_hoursWith_6 rfl, s_mo_ldA _ _⟩, (List.forall_mem_cons.mpr ⟨⟨s_getf (ci := 6) (k := 4) rfl (by decide) inX10 w_259 dX10_hoursWith_7, s_mo_getf _ _ _⟩, (List.forall_mem_cons.mpr ⟨⟨s_ldIn dX10_hoursWith_10 rfl, s_mo_ldI _ _⟩, (List.forall_mem_cons.mpr ⟨⟨s_sV mk_94 mk_92 ok_92 (by decide +kernel) dX10_hoursWith_11 w_1072 w_1074 wp_19 (Or.inr ⟨6, _, _, rfl, rfl⟩), s_h0 mk_94⟩, (List.forall_mem_cons.mpr ⟨⟨s_ldAn dX10_hoursWith_14 rfl, s_mo_ldA _ _⟩, (List.forall_mem_cons.mpr ⟨⟨s_ldAn dX10_hoursWith_15 rfl, s_mo_ldA _ _⟩, (List.forall_mem_cons.mpr ⟨⟨s_iconst dX10_hoursWith_16 (by decide +kernel), s_mo_push _ _⟩, (List.forall_mem_cons.mpr ⟨⟨s_sV mk_94 mk_95 ok_95 (by decide +kernel) dX10_hoursWith_17 w_1076 w_1078 wp_20 (Or.inr ⟨6, _, _, rfl, rfl⟩), s_h0 mk_94⟩, (List.forall_mem_cons.mpr ⟨s_r1 mk_94 dX10_hoursWith_20, (fun _ h => absurd h List.not_mem_nil)⟩)⟩)⟩)⟩)⟩)⟩)⟩)⟩)⟩)⟩)⟩)⟩)⟩)
theorem km_94 : ∀ t ∈ tm_94, s_tok 94 t := (List.forall_mem_cons.mpr ⟨s_lift mk_94 kb_94_0, (fun _ h => absurd h List.not_mem_nil)⟩)
theorem dX10_hoursIfThick_0 : decode cX10_hoursIfThick 0 = .ok (.aload_n 0, 1) := by decide +kernel
theorem dX10_hoursIfThick_1 : decode cX10_hoursIfThick 1 = .ok (.getfield 18, 3) := by decide +kernel
theorem dX10_hoursIfThick_4 : decode cX10_hoursIfThick 4 = .ok (.istore_n 3, 1) := by decide +kernel
theorem dX10_hoursIfThick_5 : decode cX10_hoursIfThick 5 = .ok (.iconst 1, 1) := by decide +kernel
theorem dX10_hoursIfThick_6 : decode cX10_hoursIfThick 6 = .ok (.aload_n 0, 1) := by decide +kernel
theorem dX10_hoursIfThick_7 : decode cX10_hoursIfThick 7 = .ok (.getfield 9, 3) := by decide +kernel
theorem dX10_hoursIfThick_10 : decode cX10_hoursIfThick 10 = .ok (.ishl, 1) := by decide +kernel
theorem dX10_hoursIfThick_11 : decode cX10_hoursIfThick 11 = .ok (.aload_n 0, 1) := by decide +kernel
theorem dX10_hoursIfThick_12 : decode cX10_hoursIfThick 12 = .ok (.getfield 31, 3) := by decide +kernel
theorem dX10_hoursIfThick_15 : decode cX10_hoursIfThick 15 = .ok (.iload_n 3, 1) := by decide +kernel
theorem dX10_hoursIfThick_16 : decode cX10_hoursIfThick 16 = .ok (.iaload, 1) := by decide +kernel
theorem dX10_hoursIfThick_17 : decode cX10_hoursIfThick 17 = .ok (.aload_n 0, 1) := by decide +kernel
theorem dX10_hoursIfThick_18 : decode cX10_hoursIfThick 18 = .ok (.getfield 34, 3) := by decide +kernel
theorem dX10_hoursIfThick_21 : decode cX10_hoursIfThick 21 = .ok (.iload_n 3, 1) := by decide +kernel
theorem dX10_hoursIfThick_22 : decode cX10_hoursIfThick 22 = .ok (.iaload, 1) := by decide +kernel
theorem dX10_hoursIfThick_23 : decode cX10_hoursIfThick 23 = .ok (.iload_n 2, 1) := by decide +kernel
theorem dX10_hoursIfThick_24 : decode cX10_hoursIfThick 24 = .ok (.iand, 1) := by decide +kernel
theorem dX10_hoursIfThick_25 : decode cX10_hoursIfThick 25 = .ok (.ior, 1) := by decide +kernel
theorem dX10_hoursIfThick_26 : decode cX10_hoursIfThick 26 = .ok (.iand, 1) := by decide +kernel
theorem dX10_hoursIfThick_27 : decode cX10_hoursIfThick 27 = .ok (.istore 4, 2) := by decide +kernel
theorem dX10_hoursIfThick_29 : decode cX10_hoursIfThick 29 = .ok (.iconst 0, 1) := by decide +kernel
theorem dX10_hoursIfThick_30 : decode cX10_hoursIfThick 30 = .ok (.istore 5, 2) := by decide +kernel
theorem dX10_hoursIfThick_32 : decode cX10_hoursIfThick 32 = .ok (.iload 5, 2) := by decide +kernel
theorem dX10_hoursIfThick_34 : decode cX10_hoursIfThick 34 = .ok (.bipush 48, 2) := by decide +kernel
theorem dX10_hoursIfThick_36 : decode cX10_hoursIfThick 36 = .ok (.if_icmp .gt 61, 3) := by decide +kernel
theorem dX10_hoursIfThick_39 : decode cX10_hoursIfThick 39 = .ok (.iload 4, 2) := by decide +kernel
theorem dX10_hoursIfThick_41 : decode cX10_hoursIfThick 41 = .ok (.ifCond .eq 56, 3) := by decide +kernel
theorem dX10_hoursIfThick_44 : decode cX10_hoursIfThick 44 = .ok (.iload 4, 2) := by decide +kernel
theorem dX10_hoursIfThick_46 : decode cX10_hoursIfThick 46 = .ok (.aload_n 0, 1) := by decide +kernel
theorem dX10_hoursIfThick_47 : decode cX10_hoursIfThick 47 = .ok (.getfield 15, 3) := by decide +kernel
theorem dX10_hoursIfThick_50 : decode cX10_hoursIfThick 50 = .ok (.ishr, 1) := by decide +kernel
theorem dX10_hoursIfThick_51 : decode cX10_hoursIfThick 51 = .ok (.iconst 1, 1) := by decide +kernel
theorem dX10_hoursIfThick_52 : decode cX10_hoursIfThick 52 = .ok (.iand, 1) := by decide +kernel
theorem dX10_hoursIfThick_53 : decode cX10_hoursIfThick 53 = .ok (.ifCond .eq 6, 3) := by decide +kernel
theorem dX10_hoursIfThick_56 : decode cX10_hoursIfThick 56 = .ok (.iload 5, 2) := by decide +kernel
theorem dX10_hoursIfThick_58 : decode cX10_hoursIfThick 58 = .ok (.ireturn, 1) := by decide +kernel
theorem dX10_hoursIfThick_59 : decode cX10_hoursIfThick 59 = .ok (.iload_n 3, 1) := by decide +kernel
theorem dX10_hoursIfThick_60 : decode cX10_hoursIfThick 60 = .ok (.invokestatic 86, 3) := by decide +kernel
theorem dX10_hoursIfThick_63 : decode cX10_hoursIfThick 63 = .ok (.istore_n 3, 1) := by decide +kernel
theorem dX10_hoursIfThick_64 : decode cX10_hoursIfThick 64 = .ok (.iload 4, 2) := by decide +kernel
theorem dX10_hoursIfThick_66 : decode cX10_hoursIfThick 66 = .ok (.aload_n 1, 1) := by decide +kernel
theorem dX10_hoursIfThick_67 : decode cX10_hoursIfThick 67 = .ok (.iload 4, 2) := by decide +kernel
theorem dX10_hoursIfThick_69 : decode cX10_hoursIfThick 69 = .ok (.invokevirtual 89, 3) := by decide +kernel
theorem dX10_hoursIfThick_72 : decode cX10_hoursIfThick 72 = .ok (.ior, 1) := by decide +kernel
theorem dX10_hoursIfThick_73 : decode cX10_hoursIfThick 73 = .ok (.aload_n 0, 1) := by decide +kernel
theorem dX10_hoursIfThick_74 : decode cX10_hoursIfThick 74 = .ok (.getfield 31, 3) := by decide +kernel
theorem dX10_hoursIfThick_77 : decode cX10_hoursIfThick 77 = .ok (.iload_n 3, 1) := by decide +kernel
theorem dX10_hoursIfThick_78 : decode cX10_hoursIfThick 78 = .ok (.iaload, 1) := by decide +kernel
theorem dX10_hoursIfThick_79 : decode cX10_hoursIfThick 79 = .ok (.aload_n 0, 1) := by decide +kernel
theorem dX10_hoursIfThick_80 : decode cX10_hoursIfThick 80 = .ok (.getfield 34, 3) := by decide +kernel
theorem dX10_hoursIfThick_83 : decode cX10_hoursIfThick 83 = .ok (.iload_n 3, 1) := by decide +kernel
theorem dX10_hoursIfThick_84 : decode cX10_hoursIfThick 84 = .ok (.iaload, 1) := by decide +kernel
theorem dX10_hoursIfThick_85 : decode cX10_hoursIfThick 85 = .ok (.iload_n 2, 1) := by decide +kernel
theorem dX10_hoursIfThick_86 : decode cX10_hoursIfThick 86 = .ok (.iand, 1) := by decide +kernel
theorem dX10_hoursIfThick_87 : decode cX10_hoursIfThick 87 = .ok (.ior, 1) := by decide +kernel
theorem dX10_hoursIfThick_88 : decode cX10_hoursIfThick 88 = .ok (.iand, 1) := by decide +kernel
theorem dX10_hoursIfThick_89 : decode cX10_hoursIfThick 89 = .ok (.istore 4, 2) := by decide +kernel
theorem dX10_hoursIfThick_91 : decode cX10_hoursIfThick 91 = .ok (.iinc 5 1, 3) := by decide +kernel
theorem dX10_hoursIfThick_94 : decode cX10_hoursIfThick 94 = .ok (.goto (-62), 3) := by decide +kernel
theorem dX10_hoursIfThick_97 : decode cX10_hoursIfThick 97 = .ok (.iconst (-1), 1) := by decide +kernel
theorem dX10_hoursIfThick_98 : decode cX10_hoursIfThick 98 = .ok (.ireturn, 1) := by decide +kernel
set_option maxRecDepth 20000 in
theorem kb_95_0 : ∀ q ∈ tb_95_0, s_atx 95 yX10_hoursIfThick cX10_hoursIfThick q.1 q.2 := (List.forall_mem_cons.mpr ⟨⟨s_ldAn dX10_hoursIfThick_0 rfl, s_mo_ldA _ _⟩, (List.forall_mem_cons.mpr ⟨⟨s_getf (ci := 6) (k := 2) rfl (by decide) inX10 w_257 dX10_hoursIfThick_1, s_mo_getf _ _ _⟩, (List.forall_mem_cons.mpr ⟨⟨s_stIn dX10_hoursIfThick_4 rfl, s_mo_stI _ _⟩, (List.forall_mem_cons.mpr ⟨⟨s_iconst dX10_hoursIfThick_5 (by decide +kernel), s_mo_push _ _⟩, (List.forall_mem_cons.mpr ⟨⟨s_ldAn dX10_hoursIfThick_6 rfl, s_mo_ldA _ _⟩, (List.forall_mem_cons.mpr ⟨⟨s_getf (ci := 6) (k := 0) rfl (by decide) inX10 w_255 dX10_hoursIfThick_7, s_mo_getf _ _ _⟩, (List.forall_mem_cons.mpr ⟨⟨s_ishl dX10_hoursIfThick_10, s_mo_bin _ _⟩, (List.forall_mem_cons.mpr ⟨⟨s_ldAn dX10_hoursIfThick_11 rfl, s_mo_ldA _ _⟩, (List.forall_mem_cons.mpr ⟨⟨s_getf (ci := 6) (k := 6) rfl (by decide) inX10 w_261 dX10_hoursIfThick_12, s_mo_getf _ _ _⟩, (List.forall_mem_cons.mpr ⟨⟨s_ldIn dX10_hoursIfThick_15 rfl, s_mo_ldI _ _⟩, (List.forall_mem_cons.mpr ⟨⟨s_iald dX10_hoursIfThick_16, s_mo_iald _⟩, (List.forall_mem_cons.mpr ⟨⟨s_ldAn dX10_hoursIfThick_17 rfl, s_mo_ldA _ _⟩, (List.forall_mem_cons.mpr ⟨⟨s_getf (ci := 6) (k := 7) rfl (by decide) inX10 w_262 dX10_hoursIfThick_18, s_mo_getf _ _ _⟩, (List.forall_mem_cons.mpr ⟨⟨s_ldIn dX10_hoursIfThick_21 rfl, s_mo_ldI _ _⟩, (List.forall_mem_cons.mpr ⟨⟨s_iald dX10_hoursIfThick_22, s_mo_iald _⟩, (List.forall_mem_cons.mpr ⟨⟨s_ldIn dX10_hoursIfThick_23 rfl, s_mo_ldI _ _⟩, (List.forall_mem_cons.mpr ⟨⟨s_iand dX10_hoursIfThick_24, s_mo_bin _ _⟩, (List.forall_mem_cons.mpr ⟨⟨s_ior dX10_hoursIfThick_25, s_mo_bin _ _⟩, (List.forall_mem_cons.mpr ⟨⟨s_iand dX10_hoursIfThick_26, s_mo_bin _ _⟩, (List.forall_mem_cons.mpr ⟨⟨s_stI dX10_hoursIfThick_27, s_mo_stI _ _⟩, (List.forall_mem_cons.mpr ⟨⟨s_iconst dX10_hoursIfThick_29 (by decide +kernel), s_mo_push _ _⟩, (List.forall_mem_cons.mpr ⟨⟨s_stI dX10_hoursIfThick_30, s_mo_stI _ _⟩, (List.forall_mem_cons.mpr ⟨⟨s_ldI dX10_hoursIfThick_32, s_mo_ldI _ _⟩, (List.forall_mem_cons.mpr ⟨⟨s_bipush dX10_hoursIfThick_34 (by decide +kernel), s_mo_push _ _⟩, (List.forall_mem_cons.mpr ⟨⟨s_icgt dX10_hoursIfThick_36 (by decide), s_mo_icgt _ _⟩, (List.forall_mem_cons.mpr ⟨⟨s_ldI dX10_hoursIfThick_39, s_mo_ldI _ _⟩, (List.forall_mem_cons.mpr ⟨⟨s_ifeq dX10_hoursIfThick_41 (by decide), s_mo_ifeq _ _⟩, (List.forall_mem_cons.mpr ⟨⟨s_ldI dX10_hoursIfThick_44, s_mo_ldI _ _⟩, (List.forall_mem_cons.mpr ⟨⟨s_ldAn dX10_hoursIfThick_46 rfl, s_mo_ldA _ _⟩, (List.forall_mem_cons.mpr ⟨⟨s_getf (ci := 6) (k := 1) rfl (by decide) inX10 w_256 dX10_hoursIfThick_47, s_mo_getf _ _ _⟩, (List.forall_mem_cons.mpr ⟨⟨s_ishr dX10_hoursIfThick_50, s_mo_bin _ _⟩, (List.forall_mem_cons.mpr ⟨⟨s_iconst dX10_hoursIfThick_51 (by decide +kernel), s_mo_push _ _⟩, (List.forall_mem_cons.mpr ⟨⟨s_iand dX10_hoursIfThick_52, s_mo_bin _ _⟩, (List.forall_mem_cons.mpr ⟨⟨s_ifeq dX10_hoursIfThick_53 (by decide), s_mo_ifeq _ _⟩, (List.forall_mem_cons.mpr ⟨⟨s_ldI dX10_hoursIfThick_56, s_mo_ldI _ _⟩, (List.forall_mem_cons.mpr ⟨s_r1 mk_95 dX10_hoursIfThick_58, (List.forall_mem_cons.mpr ⟨⟨s_ldIn dX10_hoursIfThick_59 rfl, s_mo_ldI _ _⟩, (List.forall_mem_cons.mpr ⟨⟨s_sS mk_95 mk_93 ok_93 (by decide +kernel) dX10_hoursIfThick_60 w_1080 w_1081, s_h0 mk_95⟩, (List.forall_mem_cons.mpr ⟨⟨s_stIn dX10_hoursIfThick_63 rfl, s_mo_stI _ _⟩, (fun _ h => absurd h List.not_mem_nil)⟩)⟩)⟩)⟩)⟩)⟩)⟩)⟩)⟩)⟩)⟩)⟩)⟩)⟩)⟩)⟩)⟩)⟩)⟩)⟩)⟩)⟩)⟩)⟩)⟩)⟩)⟩)⟩)⟩)⟩)⟩)⟩)⟩)⟩)⟩)⟩)⟩)⟩)⟩)
set_option maxRecDepth 20000 in
theorem kb_95_1 : ∀ q ∈ tb_95_1, s_atx 95 yX10_hoursIfThick cX10_hoursIfThick q.1 q.2 := (List.forall_mem_cons.mpr ⟨⟨s_ldI dX10_hoursIfThick_64, s_mo_ldI _ _⟩, (List.forall_mem_cons.mpr ⟨⟨s_ldAn dX10_hoursIfThick_66 rfl, s_mo_ldA _ _⟩, (List.forall_mem_cons.mpr ⟨⟨s_ldI dX10_hoursIfThick_67, s_mo_ldI _ _⟩, (List.forall_mem_cons.mpr ⟨⟨s_sV mk_95 mk_4 ok_4 (by decide +kernel) dX10_hoursIfThick_69 w_1083 w_407 w_408 (Or.inr ⟨0, _, _, rfl, rfl⟩), s_h0 mk_95⟩, (List.forall_mem_cons.mpr ⟨⟨s_ior dX10_hoursIfThick_72, s_mo_bin _ _⟩, (List.forall_mem_cons.mpr ⟨⟨s_ldAn dX10_hoursIfThick_73 rfl, s_mo_ldA _ _⟩, (List.forall_mem_cons.mpr ⟨⟨s_getf (ci := 6) (k := 6) rfl (by decide) inX10 w_261 dX10_hoursIfThick_74, s_mo_getf _ _ _⟩, (List.forall_mem_cons.mpr ⟨⟨s_ldIn dX10_hoursIfThick_77 rfl, s_mo_ldI _ _⟩, (List.forall_mem_cons.mpr ⟨⟨s_iald dX10_hoursIfThick_78, s_mo_iald _⟩, (List.forall_mem_cons.mpr ⟨⟨s_ldAn dX10_hoursIfThick_79 rfl, s_mo_ldA _ _⟩, (List.forall_mem_cons.mpr ⟨⟨s_getf (ci := 6) (k := 7) rfl (by decide) inX10 w_262 dX10_hoursIfThick_80, s_mo_getf _ _ _⟩, (List.forall_mem_cons.mpr ⟨⟨s_ldIn dX10_hoursIfThick_83 rfl, s_mo_ldI _ _⟩, (List.forall_mem_cons.mpr ⟨⟨s_iald dX10_hoursIfThick_84, s_mo_iald _⟩, (List.forall_mem_cons.mpr ⟨⟨s_ldIn dX10_hoursIfThick_85 rfl, s_mo_ldI _ _⟩, (List.forall_mem_cons.mpr ⟨⟨s_iand dX10_hoursIfThick_86, s_mo_bin _ _⟩, (List.forall_mem_cons.mpr ⟨⟨s_ior dX10_hoursIfThick_87, s_mo_bin _ _⟩, (List.forall_mem_cons.mpr ⟨⟨s_iand dX10_hoursIfThick_88, s_mo_bin _ _⟩, (List.forall_mem_cons.mpr ⟨⟨s_stI dX10_hoursIfThick_89, s_mo_stI _ _⟩, (List.forall_mem_cons.mpr ⟨⟨s_inc dX10_hoursIfThick_91 (by decide +kernel), s_mo_inc _ _ _⟩, (List.forall_mem_cons.mpr ⟨⟨s_goto dX10_hoursIfThick_94 (by decide), s_mo_goto _⟩, (List.forall_mem_cons.mpr ⟨⟨s_iconst dX10_hoursIfThick_97 (by decide +kernel), s_mo_push _ _⟩, (List.forall_mem_cons.mpr ⟨s_r1 mk_95 dX10_hoursIfThick_98, (fun _ h => absurd h List.not_mem_nil)⟩)⟩)⟩)⟩)⟩)⟩)⟩)⟩)⟩)⟩)⟩)⟩)⟩)⟩)⟩)⟩)⟩)⟩)⟩)⟩)⟩)⟩)
theorem km_95 : ∀ t ∈ tm_95, s_tok 95 t := (List.forall_mem_cons.mpr ⟨s_lift mk_95 kb_95_0, (List.forall_mem_cons.mpr ⟨s_lift mk_95 kb_95_1, (fun _ h => absurd h List.not_mem_nil)⟩)⟩)
theorem dX10_paneBehind_0 : decode cX10_paneBehind 0 = .ok (.aload_n 0, 1) := by decide +kernel
theorem dX10_paneBehind_1 : decode cX10_paneBehind 1 = .ok (.getfield 37, 3) := by decide +kernel
theorem dX10_paneBehind_4 : decode cX10_paneBehind 4 = .ok (.iload_n 3, 1) := by decide +kernel
theorem dX10_paneBehind_5 : decode cX10_paneBehind 5 = .ok (.iconst 1, 1) := by decide +kernel
theorem dX10_paneBehind_6 : decode cX10_paneBehind 6 = .ok (.aload_n 0, 1) := by decide +kernel
theorem dX10_paneBehind_7 : decode cX10_paneBehind 7 = .ok (.getfield 15, 3) := by decide +kernel
theorem dX10_paneBehind_10 : decode cX10_paneBehind 10 = .ok (.ishl, 1) := by decide +kernel
theorem dX10_paneBehind_11 : decode cX10_paneBehind 11 = .ok (.iastore, 1) := by decide +kernel
theorem dX10_paneBehind_12 : decode cX10_paneBehind 12 = .ok (.iload_n 3, 1) := by decide +kernel
theorem dX10_paneBehind_13 : decode cX10_paneBehind 13 = .ok (.iconst 1, 1) := by decide +kernel
theorem dX10_paneBehind_14 : decode cX10_paneBehind 14 = .ok (.isub, 1) := by decide +kernel
theorem dX10_paneBehind_15 : decode cX10_paneBehind 15 = .ok (.istore 4, 2) := by decide +kernel
theorem dX10_paneBehind_17 : decode cX10_paneBehind 17 = .ok (.iload 4, 2) := by decide +kernel
theorem dX10_paneBehind_19 : decode cX10_paneBehind 19 = .ok (.ifCond .lt 52, 3) := by decide +kernel
theorem dX10_paneBehind_22 : decode cX10_paneBehind 22 = .ok (.aload_n 0, 1) := by decide +kernel
theorem dX10_paneBehind_23 : decode cX10_paneBehind 23 = .ok (.getfield 37, 3) := by decide +kernel
theorem dX10_paneBehind_26 : decode cX10_paneBehind 26 = .ok (.iload 4, 2) := by decide +kernel
theorem dX10_paneBehind_28 : decode cX10_paneBehind 28 = .ok (.iconst 1, 1) := by decide +kernel
theorem dX10_paneBehind_29 : decode cX10_paneBehind 29 = .ok (.iadd, 1) := by decide +kernel
theorem dX10_paneBehind_30 : decode cX10_paneBehind 30 = .ok (.iaload, 1) := by decide +kernel
theorem dX10_paneBehind_31 : decode cX10_paneBehind 31 = .ok (.istore 5, 2) := by decide +kernel
theorem dX10_paneBehind_33 : decode cX10_paneBehind 33 = .ok (.aload_n 0, 1) := by decide +kernel
theorem dX10_paneBehind_34 : decode cX10_paneBehind 34 = .ok (.getfield 37, 3) := by decide +kernel
theorem dX10_paneBehind_37 : decode cX10_paneBehind 37 = .ok (.iload 4, 2) := by decide +kernel
theorem dX10_paneBehind_39 : decode cX10_paneBehind 39 = .ok (.iload 5, 2) := by decide +kernel
theorem dX10_paneBehind_41 : decode cX10_paneBehind 41 = .ok (.aload_n 1, 1) := by decide +kernel
theorem dX10_paneBehind_42 : decode cX10_paneBehind 42 = .ok (.iload 5, 2) := by decide +kernel
theorem dX10_paneBehind_44 : decode cX10_paneBehind 44 = .ok (.invokevirtual 89, 3) := by decide +kernel
theorem dX10_paneBehind_47 : decode cX10_paneBehind 47 = .ok (.ior, 1) := by decide +kernel
theorem dX10_paneBehind_48 : decode cX10_paneBehind 48 = .ok (.aload_n 0, 1) := by decide +kernel
theorem dX10_paneBehind_49 : decode cX10_paneBehind 49 = .ok (.getfield 31, 3) := by decide +kernel
theorem dX10_paneBehind_52 : decode cX10_paneBehind 52 = .ok (.aload_n 0, 1) := by decide +kernel
theorem dX10_paneBehind_53 : decode cX10_paneBehind 53 = .ok (.getfield 18, 3) := by decide +kernel
theorem dX10_paneBehind_56 : decode cX10_paneBehind 56 = .ok (.iload 4, 2) := by decide +kernel
theorem dX10_paneBehind_58 : decode cX10_paneBehind 58 = .ok (.iadd, 1) := by decide +kernel
theorem dX10_paneBehind_59 : decode cX10_paneBehind 59 = .ok (.bipush 24, 2) := by decide +kernel
theorem dX10_paneBehind_61 : decode cX10_paneBehind 61 = .ok (.irem, 1) := by decide +kernel
theorem dX10_paneBehind_62 : decode cX10_paneBehind 62 = .ok (.iaload, 1) := by decide +kernel
theorem dX10_paneBehind_63 : decode cX10_paneBehind 63 = .ok (.iand, 1) := by decide +kernel
theorem dX10_paneBehind_64 : decode cX10_paneBehind 64 = .ok (.iastore, 1) := by decide +kernel
theorem dX10_paneBehind_65 : decode cX10_paneBehind 65 = .ok (.iinc 4 (-1), 3) := by decide +kernel
theorem dX10_paneBehind_68 : decode cX10_paneBehind 68 = .ok (.goto (-51), 3) := by decide +kernel
theorem dX10_paneBehind_71 : decode cX10_paneBehind 71 = .ok (.aload_n 0, 1) := by decide +kernel
theorem dX10_paneBehind_72 : decode cX10_paneBehind 72 = .ok (.getfield 9, 3) := by decide +kernel
theorem dX10_paneBehind_75 : decode cX10_paneBehind 75 = .ok (.istore 4, 2) := by decide +kernel
theorem dX10_paneBehind_77 : decode cX10_paneBehind 77 = .ok (.iconst 1, 1) := by decide +kernel
theorem dX10_paneBehind_78 : decode cX10_paneBehind 78 = .ok (.istore 5, 2) := by decide +kernel
theorem dX10_paneBehind_80 : decode cX10_paneBehind 80 = .ok (.iload 5, 2) := by decide +kernel
theorem dX10_paneBehind_82 : decode cX10_paneBehind 82 = .ok (.iload_n 2, 1) := by decide +kernel
theorem dX10_paneBehind_83 : decode cX10_paneBehind 83 = .ok (.if_icmp .gt 30, 3) := by decide +kernel
theorem dX10_paneBehind_86 : decode cX10_paneBehind 86 = .ok (.iload 5, 2) := by decide +kernel
theorem dX10_paneBehind_88 : decode cX10_paneBehind 88 = .ok (.iload_n 3, 1) := by decide +kernel
theorem dX10_paneBehind_89 : decode cX10_paneBehind 89 = .ok (.if_icmp .gt 24, 3) := by decide +kernel
theorem dX10_paneBehind_92 : decode cX10_paneBehind 92 = .ok (.aload_n 1, 1) := by decide +kernel
theorem dX10_paneBehind_93 : decode cX10_paneBehind 93 = .ok (.iload 4, 2) := by decide +kernel
theorem dX10_paneBehind_95 : decode cX10_paneBehind 95 = .ok (.aload_n 0, 1) := by decide +kernel
theorem dX10_paneBehind_96 : decode cX10_paneBehind 96 = .ok (.getfield 37, 3) := by decide +kernel
theorem dX10_paneBehind_99 : decode cX10_paneBehind 99 = .ok (.iload 5, 2) := by decide +kernel
theorem dX10_paneBehind_101 : decode cX10_paneBehind 101 = .ok (.iaload, 1) := by decide +kernel
theorem dX10_paneBehind_102 : decode cX10_paneBehind 102 = .ok (.invokestatic 92, 3) := by decide +kernel
theorem dX10_paneBehind_105 : decode cX10_paneBehind 105 = .ok (.istore 4, 2) := by decide +kernel
theorem dX10_paneBehind_107 : decode cX10_paneBehind 107 = .ok (.iinc 5 1, 3) := by decide +kernel
theorem dX10_paneBehind_110 : decode cX10_paneBehind 110 = .ok (.goto (-30), 3) := by decide +kernel
theorem dX10_paneBehind_113 : decode cX10_paneBehind 113 = .ok (.iload 4, 2) := by decide +kernel
theorem dX10_paneBehind_115 : decode cX10_paneBehind 115 = .ok (.ireturn, 1) := by decide +kernel
set_option maxRecDepth 20000 in
theorem kb_96_0 : ∀ q ∈ tb_96_0, s_atx 96 yX10_paneBehind cX10_paneBehind q.1 q.2 := (List.forall_mem_cons.mpr ⟨⟨s_ldAn dX10_paneBehind_0 rfl, s_mo_ldA _ _⟩, (List.forall_mem_cons.mpr ⟨⟨s_getf (ci := 6) (k := 8) rfl (by decide) inX10 w_263 dX10_paneBehind_1, s_mo_getf _ _ _⟩, (List.forall_mem_cons.mpr ⟨⟨s_ldIn dX10_paneBehind_4 rfl, s_mo_ldI _ _⟩, (List.forall_mem_cons.mpr ⟨⟨s_iconst dX10_paneBehind_5 (by decide +kernel), s_mo_push _ _⟩, (List.forall_mem_cons.mpr ⟨⟨s_ldAn dX10_paneBehind_6 rfl, s_mo_ldA _ _⟩, (List.forall_mem_cons.mpr ⟨⟨s_getf (ci := 6) (k := 1) rfl (by decide) inX10 w_256 dX10_paneBehind_7, s_mo_getf _ _ _⟩, (List.forall_mem_cons.mpr ⟨⟨s_ishl dX10_paneBehind_10, s_mo_bin _ _⟩, (List.forall_mem_cons.mpr ⟨⟨s_iast dX10_paneBehind_11, s_mo_iast _⟩, (List.forall_mem_cons.mpr ⟨⟨s_ldIn dX10_paneBehind_12 rfl, s_mo_ldI _ _⟩, (List.forall_mem_cons.mpr ⟨⟨s_iconst dX10_paneBehind_13 (by decide +kernel), s_mo_push _ _⟩, (List.forall_mem_cons.mpr ⟨⟨s_isub dX10_paneBehind_14, s_mo_bin _ _⟩, (List.forall_mem_cons.mpr ⟨⟨s_stI dX10_paneBehind_15, s_mo_stI _ _⟩, (List.forall_mem_cons.mpr ⟨⟨s_ldI dX10_paneBehind_17, s_mo_ldI _ _⟩, (List.forall_mem_cons.mpr ⟨⟨s_iflt dX10_paneBehind_19 (by decide), s_mo_iflt _ _⟩, (List.forall_mem_cons.mpr ⟨⟨s_ldAn dX10_paneBehind_22 rfl, s_mo_ldA _ _⟩, (List.forall_mem_cons.mpr ⟨⟨s_getf (ci := 6) (k := 8) rfl (by decide) inX10 w_263 dX10_paneBehind_23, s_mo_getf _ _ _⟩, (List.forall_mem_cons.mpr ⟨⟨s_ldI dX10_paneBehind_26, s_mo_ldI _ _⟩, (List.forall_mem_cons.mpr ⟨⟨s_iconst dX10_paneBehind_28 (by decide +kernel), s_mo_push _ _⟩, (List.forall_mem_cons.mpr ⟨⟨s_iadd dX10_paneBehind_29, s_mo_bin _ _⟩, (List.forall_mem_cons.mpr ⟨⟨s_iald dX10_paneBehind_30, s_mo_iald _⟩, (List.forall_mem_cons.mpr ⟨⟨s_stI dX10_paneBehind_31, s_mo_stI _ _⟩, (List.forall_mem_cons.mpr ⟨⟨s_ldAn dX10_paneBehind_33 rfl, s_mo_ldA _ _⟩, (List.forall_mem_cons.mpr ⟨⟨s_getf (ci := 6) (k := 8) rfl (by decide) inX10 w_263 dX10_paneBehind_34, s_mo_getf _ _ _⟩, (List.forall_mem_cons.mpr ⟨⟨s_ldI dX10_paneBehind_37, s_mo_ldI _ _⟩, (List.forall_mem_cons.mpr ⟨⟨s_ldI dX10_paneBehind_39, s_mo_ldI _ _⟩, (List.forall_mem_cons.mpr ⟨⟨s_ldAn dX10_paneBehind_41 rfl, s_mo_ldA _ _⟩, (List.forall_mem_cons.mpr ⟨⟨s_ldI dX10_paneBehind_42, s_mo_ldI _ _⟩, (List.forall_mem_cons.mpr ⟨⟨s_sV mk_96 mk_4 ok_4 (by decide +kernel) dX10_paneBehind_44 w_1083 w_407 w_408 (Or.inr ⟨0, _, _, rfl, rfl⟩), s_h0 mk_96⟩, (List.forall_mem_cons.mpr ⟨⟨s_ior dX10_paneBehind_47, s_mo_bin _ _⟩, (List.forall_mem_cons.mpr ⟨⟨s_ldAn dX10_paneBehind_48 rfl, s_mo_ldA _ _⟩, (List.forall_mem_cons.mpr ⟨⟨s_getf (ci := 6) (k := 6) rfl (by decide) inX10 w_261 dX10_paneBehind_49, s_mo_getf _ _ _⟩, (List.forall_mem_cons.mpr ⟨⟨s_ldAn dX10_paneBehind_52 rfl, s_mo_ldA _ _⟩, (List.forall_mem_cons.mpr ⟨⟨s_getf (ci := 6) (k := 2) rfl (by decide) inX10 w_257 dX10_paneBehind_53, s_mo_getf _ _ _⟩, (List.forall_mem_cons.mpr ⟨⟨s_ldI dX10_paneBehind_56, s_mo_ldI _ _⟩, (List.forall_mem_cons.mpr ⟨⟨s_iadd dX10_paneBehind_58, s_mo_bin _ _⟩, (List.forall_mem_cons.mpr ⟨⟨s_bipush dX10_paneBehind_59 (by decide +kernel), s_mo_push _ _⟩, (List.forall_mem_cons.mpr ⟨⟨s_irem dX10_paneBehind_61, s_mo_rem _⟩, (List.forall_mem_cons.mpr ⟨⟨s_iald dX10_paneBehind_62, s_mo_iald _⟩, (List.forall_mem_cons.mpr ⟨⟨s_iand dX10_paneBehind_63, s_mo_bin _ _⟩, (fun _ h => absurd h List.not_mem_nil)⟩)⟩)⟩)⟩)⟩)⟩)⟩)⟩)⟩)⟩)⟩)⟩)⟩)⟩)⟩)⟩)⟩)⟩)⟩)⟩)⟩)⟩)⟩)⟩)⟩)⟩)⟩)⟩)⟩)⟩)⟩)⟩)⟩)⟩)⟩)⟩)⟩)⟩)⟩)
set_option maxRecDepth 20000 in
theorem kb_96_1 : ∀ q ∈ tb_96_1, s_atx 96 yX10_paneBehind cX10_paneBehind q.1 q.2 := (List.forall_mem_cons.mpr ⟨⟨s_iast dX10_paneBehind_64, s_mo_iast _⟩, (List.forall_mem_cons.mpr ⟨⟨s_inc dX10_paneBehind_65 (by decide +kernel), s_mo_inc _ _ _⟩, (List.forall_mem_cons.mpr ⟨⟨s_goto dX10_paneBehind_68 (by decide), s_mo_goto _⟩, (List.forall_mem_cons.mpr ⟨⟨s_ldAn dX10_paneBehind_71 rfl, s_mo_ldA _ _⟩, (List.forall_mem_cons.mpr ⟨⟨s_getf (ci := 6) (k := 0) rfl (by decide) inX10 w_255 dX10_paneBehind_72, s_mo_getf _ _ _⟩, (List.forall_mem_cons.mpr ⟨⟨s_stI dX10_paneBehind_75, s_mo_stI _ _⟩, (List.forall_mem_cons.mpr ⟨⟨s_iconst dX10_paneBehind_77 (by decide +kernel), s_mo_push _ _⟩, (List.forall_mem_cons.mpr ⟨⟨s_stI dX10_paneBehind_78, s_mo_stI _ _⟩, (List.forall_mem_cons.mpr ⟨⟨s_ldI dX10_paneBehind_80, s_mo_ldI _ _⟩, (List.forall_mem_cons.mpr ⟨⟨s_ldIn dX10_paneBehind_82 rfl, s_mo_ldI _ _⟩, (List.forall_mem_cons.mpr ⟨⟨s_icgt dX10_paneBehind_83 (by decide), s_mo_icgt _ _⟩, (List.forall_mem_cons.mpr ⟨⟨s_ldI dX10_paneBehind_86, s_mo_ldI _ _⟩, (List.forall_mem_cons.mpr ⟨⟨s_ldIn dX10_paneBehind_88 rfl, s_mo_ldI _ _⟩, (List.forall_mem_cons.mpr ⟨⟨s_icgt dX10_paneBehind_89 (by decide), s_mo_icgt _ _⟩, (List.forall_mem_cons.mpr ⟨⟨s_ldAn dX10_paneBehind_92 rfl, s_mo_ldA _ _⟩, (List.forall_mem_cons.mpr ⟨⟨s_ldI dX10_paneBehind_93, s_mo_ldI _ _⟩, (List.forall_mem_cons.mpr ⟨⟨s_ldAn dX10_paneBehind_95 rfl, s_mo_ldA _ _⟩, (List.forall_mem_cons.mpr ⟨⟨s_getf (ci := 6) (k := 8) rfl (by decide) inX10 w_263 dX10_paneBehind_96, s_mo_getf _ _ _⟩, (List.forall_mem_cons.mpr ⟨⟨s_ldI dX10_paneBehind_99, s_mo_ldI _ _⟩, (List.forall_mem_cons.mpr ⟨⟨s_iald dX10_paneBehind_101, s_mo_iald _⟩, (List.forall_mem_cons.mpr ⟨⟨s_sS mk_96 mk_97 ok_97 (by decide +kernel) dX10_paneBehind_102 w_1150 w_1151, s_h0 mk_96⟩, (List.forall_mem_cons.mpr ⟨⟨s_stI dX10_paneBehind_105, s_mo_stI _ _⟩, (List.forall_mem_cons.mpr ⟨⟨s_inc dX10_paneBehind_107 (by decide +kernel), s_mo_inc _ _ _⟩, (List.forall_mem_cons.mpr ⟨⟨s_goto dX10_paneBehind_110 (by decide), s_mo_goto _⟩, (List.forall_mem_cons.mpr ⟨⟨s_ldI dX10_paneBehind_113, s_mo_ldI _ _⟩, (List.forall_mem_cons.mpr ⟨s_r1 mk_96 dX10_paneBehind_115, (fun _ h => absurd h List.not_mem_nil)⟩)⟩)⟩)⟩)⟩)⟩)⟩)⟩)⟩)⟩)⟩)⟩)⟩)⟩)⟩)⟩)⟩)⟩)⟩)⟩)⟩)⟩)⟩)⟩)⟩)⟩)
theorem km_96 : ∀ t ∈ tm_96, s_tok 96 t := (List.forall_mem_cons.mpr ⟨s_lift mk_96 kb_96_0, (List.forall_mem_cons.mpr ⟨s_lift mk_96 kb_96_1, (fun _ h => absurd h List.not_mem_nil)⟩)⟩)
theorem dX10_firstStep_0 : decode cX10_firstStep 0 = .ok (.iload_n 2, 1) := by decide +kernel
theorem dX10_firstStep_1 : decode cX10_firstStep 1 = .ok (.iload_n 1, 1) := by decide +kernel
theorem dX10_firstStep_2 : decode cX10_firstStep 2 = .ok (.ishr, 1) := by decide +kernel
theorem dX10_firstStep_3 : decode cX10_firstStep 3 = .ok (.iconst 1, 1) := by decide +kernel
theorem dX10_firstStep_4 : decode cX10_firstStep 4 = .ok (.iand, 1) := by decide +kernel
theorem dX10_firstStep_5 : decode cX10_firstStep 5 = .ok (.ifCond .eq 5, 3) := by decide +kernel
theorem dX10_firstStep_8 : decode cX10_firstStep 8 = .ok (.iload_n 1, 1) := by decide +kernel
theorem dX10_firstStep_9 : decode cX10_firstStep 9 = .ok (.ireturn, 1) := by decide +kernel
theorem dX10_firstStep_10 : decode cX10_firstStep 10 = .ok (.iconst 0, 1) := by decide +kernel
theorem dX10_firstStep_11 : decode cX10_firstStep 11 = .ok (.istore_n 3, 1) := by decide +kernel
theorem dX10_firstStep_12 : decode cX10_firstStep 12 = .ok (.iload_n 3, 1) := by decide +kernel
theorem dX10_firstStep_13 : decode cX10_firstStep 13 = .ok (.iconst 4, 1) := by decide +kernel
theorem dX10_firstStep_14 : decode cX10_firstStep 14 = .ok (.if_icmp .ge 35, 3) := by decide +kernel
theorem dX10_firstStep_17 : decode cX10_firstStep 17 = .ok (.aload_n 0, 1) := by decide +kernel
theorem dX10_firstStep_18 : decode cX10_firstStep 18 = .ok (.iload_n 1, 1) := by decide +kernel
theorem dX10_firstStep_19 : decode cX10_firstStep 19 = .ok (.iload_n 3, 1) := by decide +kernel
theorem dX10_firstStep_20 : decode cX10_firstStep 20 = .ok (.invokevirtual 96, 3) := by decide +kernel
theorem dX10_firstStep_23 : decode cX10_firstStep 23 = .ok (.istore 4, 2) := by decide +kernel
theorem dX10_firstStep_25 : decode cX10_firstStep 25 = .ok (.iload 4, 2) := by decide +kernel
theorem dX10_firstStep_27 : decode cX10_firstStep 27 = .ok (.iconst (-1), 1) := by decide +kernel
theorem dX10_firstStep_28 : decode cX10_firstStep 28 = .ok (.if_icmp .eq 15, 3) := by decide +kernel
theorem dX10_firstStep_31 : decode cX10_firstStep 31 = .ok (.iload_n 2, 1) := by decide +kernel
theorem dX10_firstStep_32 : decode cX10_firstStep 32 = .ok (.iload 4, 2) := by decide +kernel
theorem dX10_firstStep_34 : decode cX10_firstStep 34 = .ok (.ishr, 1) := by decide +kernel
theorem dX10_firstStep_35 : decode cX10_firstStep 35 = .ok (.iconst 1, 1) := by decide +kernel
theorem dX10_firstStep_36 : decode cX10_firstStep 36 = .ok (.iand, 1) := by decide +kernel
theorem dX10_firstStep_37 : decode cX10_firstStep 37 = .ok (.ifCond .eq 6, 3) := by decide +kernel
theorem dX10_firstStep_40 : decode cX10_firstStep 40 = .ok (.iload 4, 2) := by decide +kernel
theorem dX10_firstStep_42 : decode cX10_firstStep 42 = .ok (.ireturn, 1) := by decide +kernel
theorem dX10_firstStep_43 : decode cX10_firstStep 43 = .ok (.iinc 3 1, 3) := by decide +kernel
theorem dX10_firstStep_46 : decode cX10_firstStep 46 = .ok (.goto (-34), 3) := by decide +kernel
theorem dX10_firstStep_49 : decode cX10_firstStep 49 = .ok (.iload_n 1, 1) := by decide +kernel
theorem dX10_firstStep_50 : decode cX10_firstStep 50 = .ok (.ireturn, 1) := by decide +kernel
set_option maxRecDepth 20000 in
theorem kb_97_0 : ∀ q ∈ tb_97_0, s_atx 97 yX10_firstStep cX10_firstStep q.1 q.2 := (List.forall_mem_cons.mpr ⟨⟨s_ldIn dX10_firstStep_0 rfl, s_mo_ldI _ _⟩, (List.forall_mem_cons.mpr ⟨⟨s_ldIn dX10_firstStep_1 rfl, s_mo_ldI _ _⟩, (List.forall_mem_cons.mpr ⟨⟨s_ishr dX10_firstStep_2, s_mo_bin _ _⟩, (List.forall_mem_cons.mpr ⟨⟨s_iconst dX10_firstStep_3 (by decide +kernel), s_mo_push _ _⟩, (List.forall_mem_cons.mpr ⟨⟨s_iand dX10_firstStep_4, s_mo_bin _ _⟩, (List.forall_mem_cons.mpr ⟨⟨s_ifeq dX10_firstStep_5 (by decide), s_mo_ifeq _ _⟩, (List.forall_mem_cons.mpr ⟨⟨s_ldIn dX10_firstStep_8 rfl, s_mo_ldI _ _⟩, (List.forall_mem_cons.mpr ⟨s_r1 mk_97 dX10_firstStep_9, (List.forall_mem_cons.mpr ⟨⟨s_iconst dX10_firstStep_10 (by decide +kernel), s_mo_push _ _⟩, (List.forall_mem_cons.mpr ⟨⟨s_stIn dX10_firstStep_11 rfl, s_mo_stI _ _⟩, (List.forall_mem_cons.mpr ⟨⟨s_ldIn dX10_firstStep_12 rfl, s_mo_ldI _ _⟩, (List.forall_mem_cons.mpr ⟨⟨s_iconst dX10_firstStep_13 (by decide +kernel), s_mo_push _ _⟩, (List.forall_mem_cons.mpr ⟨⟨s_icge dX10_firstStep_14 (by decide), s_mo_icge _ _⟩, (List.forall_mem_cons.mpr ⟨⟨s_ldAn dX10_firstStep_17 rfl, s_mo_ldA _ _⟩, (List.forall_mem_cons.mpr ⟨⟨s_ldIn dX10_firstStep_18 rfl, s_mo_ldI _ _⟩, (List.forall_mem_cons.mpr ⟨⟨s_ldIn dX10_firstStep_19 rfl, s_mo_ldI _ _⟩, (List.forall_mem_cons.mpr ⟨⟨s_sV mk_97 mk_3 ok_3 (by decide +kernel) dX10_firstStep_20 w_1153 w_1034 w_1035 (Or.inr ⟨0, _, _, rfl, rfl⟩), s_h0 mk_97⟩, (List.forall_mem_cons.mpr ⟨⟨s_stI dX10_firstStep_23, s_mo_stI _ _⟩, (List.forall_mem_cons.mpr ⟨⟨s_ldI dX10_firstStep_25, s_mo_ldI _ _⟩, (List.forall_mem_cons.mpr ⟨⟨s_iconst dX10_firstStep_27 (by decide +kernel), s_mo_push _ _⟩, (List.forall_mem_cons.mpr ⟨⟨s_iceq dX10_firstStep_28 (by decide), s_mo_iceq _ _⟩, (List.forall_mem_cons.mpr ⟨⟨s_ldIn dX10_firstStep_31 rfl, s_mo_ldI _ _⟩, (List.forall_mem_cons.mpr ⟨⟨s_ldI dX10_firstStep_32, s_mo_ldI _ _⟩, (List.forall_mem_cons.mpr ⟨⟨s_ishr dX10_firstStep_34, s_mo_bin _ _⟩, (List.forall_mem_cons.mpr ⟨⟨s_iconst dX10_firstStep_35 (by decide +kernel), s_mo_push _ _⟩, (List.forall_mem_cons.mpr ⟨⟨s_iand dX10_firstStep_36, s_mo_bin _ _⟩, (List.forall_mem_cons.mpr ⟨⟨s_ifeq dX10_firstStep_37 (by decide), s_mo_ifeq _ _⟩, (List.forall_mem_cons.mpr ⟨⟨s_ldI dX10_firstStep_40, s_mo_ldI _ _⟩, (List.forall_mem_cons.mpr ⟨s_r1 mk_97 dX10_firstStep_42, (List.forall_mem_cons.mpr ⟨⟨s_inc dX10_firstStep_43 (by decide +kernel), s_mo_inc _ _ _⟩, (List.forall_mem_cons.mpr ⟨⟨s_goto dX10_firstStep_46 (by decide), s_mo_goto _⟩, (List.forall_mem_cons.mpr ⟨⟨s_ldIn dX10_firstStep_49 rfl, s_mo_ldI _ _⟩, (List.forall_mem_cons.mpr ⟨s_r1 mk_97 dX10_firstStep_50, (fun _ h => absurd h List.not_mem_nil)⟩)⟩)⟩)⟩)⟩)⟩)⟩)⟩)⟩)⟩)⟩)⟩)⟩)⟩)⟩)⟩)⟩)⟩)⟩)⟩)⟩)⟩)⟩)⟩)⟩)⟩)⟩)⟩)⟩)⟩)⟩)⟩)⟩)
theorem km_97 : ∀ t ∈ tm_97, s_tok 97 t := (List.forall_mem_cons.mpr ⟨s_lift mk_97 kb_97_0, (fun _ h => absurd h List.not_mem_nil)⟩)
