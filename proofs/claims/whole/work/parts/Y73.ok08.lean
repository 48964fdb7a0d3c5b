/-! The tables are backed, piece by piece: written by wip/whole/gen_prog.py -/
theorem dX12_offer_0 : decode cX12_offer 0 = .ok (.aload_n 0, 1) := by decide +kernel
theorem dX12_offer_1 : decode cX12_offer 1 = .ok (.iconst 0, 1) := by decide +kernel
theorem dX12_offer_2 : decode cX12_offer 2 = .ok (.putfield 3, 3) := by decide +kernel
theorem dX12_offer_5 : decode cX12_offer 5 = .ok (.aload_n 0, 1) := by decide +kernel
theorem dX12_offer_6 : decode cX12_offer 6 = .ok (.aload_n 0, 1) := by decide +kernel
theorem dX12_offer_7 : decode cX12_offer 7 = .ok (.iload_n 1, 1) := by decide +kernel
theorem dX12_offer_8 : decode cX12_offer 8 = .ok (.invokevirtual 298, 3) := by decide +kernel
theorem dX12_offer_11 : decode cX12_offer 11 = .ok (.ifCond .ne 11, 3) := by decide +kernel
theorem dX12_offer_14 : decode cX12_offer 14 = .ok (.aload_n 0, 1) := by decide +kernel
theorem dX12_offer_15 : decode cX12_offer 15 = .ok (.iload_n 2, 1) := by decide +kernel
theorem dX12_offer_16 : decode cX12_offer 16 = .ok (.invokevirtual 264, 3) := by decide +kernel
theorem dX12_offer_19 : decode cX12_offer 19 = .ok (.ifCond .eq 7, 3) := by decide +kernel
theorem dX12_offer_22 : decode cX12_offer 22 = .ok (.iconst 1, 1) := by decide +kernel
theorem dX12_offer_23 : decode cX12_offer 23 = .ok (.goto 4, 3) := by decide +kernel
theorem dX12_offer_26 : decode cX12_offer 26 = .ok (.iconst 0, 1) := by decide +kernel
theorem dX12_offer_27 : decode cX12_offer 27 = .ok (.iconst 1, 1) := by decide +kernel
theorem dX12_offer_28 : decode cX12_offer 28 = .ok (.invokevirtual 234, 3) := by decide +kernel
theorem dX12_offer_31 : decode cX12_offer 31 = .ok (.ifCond .ne 26, 3) := by decide +kernel
theorem dX12_offer_34 : decode cX12_offer 34 = .ok (.aload_n 0, 1) := by decide +kernel
theorem dX12_offer_35 : decode cX12_offer 35 = .ok (.iload_n 3, 1) := by decide +kernel
theorem dX12_offer_36 : decode cX12_offer 36 = .ok (.iconst 0, 1) := by decide +kernel
theorem dX12_offer_37 : decode cX12_offer 37 = .ok (.bipush 99, 2) := by decide +kernel
theorem dX12_offer_39 : decode cX12_offer 39 = .ok (.invokestatic 84, 3) := by decide +kernel
theorem dX12_offer_42 : decode cX12_offer 42 = .ok (.ifCond .ne 7, 3) := by decide +kernel
theorem dX12_offer_45 : decode cX12_offer 45 = .ok (.iconst 1, 1) := by decide +kernel
theorem dX12_offer_46 : decode cX12_offer 46 = .ok (.goto 4, 3) := by decide +kernel
theorem dX12_offer_49 : decode cX12_offer 49 = .ok (.iconst 0, 1) := by decide +kernel
theorem dX12_offer_50 : decode cX12_offer 50 = .ok (.iconst 2, 1) := by decide +kernel
theorem dX12_offer_51 : decode cX12_offer 51 = .ok (.invokevirtual 234, 3) := by decide +kernel
theorem dX12_offer_54 : decode cX12_offer 54 = .ok (.ifCond .eq 5, 3) := by decide +kernel
theorem dX12_offer_57 : decode cX12_offer 57 = .ok (.iconst 0, 1) := by decide +kernel
theorem dX12_offer_58 : decode cX12_offer 58 = .ok (.ireturn, 1) := by decide +kernel
theorem dX12_offer_59 : decode cX12_offer 59 = .ok (.sipush 247, 3) := by decide +kernel
theorem dX12_offer_62 : decode cX12_offer 62 = .ok (.bipush 30, 2) := by decide +kernel
theorem dX12_offer_64 : decode cX12_offer 64 = .ok (.iload_n 1, 1) := by decide +kernel
theorem dX12_offer_65 : decode cX12_offer 65 = .ok (.imul, 1) := by decide +kernel
theorem dX12_offer_66 : decode cX12_offer 66 = .ok (.iadd, 1) := by decide +kernel
theorem dX12_offer_67 : decode cX12_offer 67 = .ok (.iload_n 2, 1) := by decide +kernel
theorem dX12_offer_68 : decode cX12_offer 68 = .ok (.iadd, 1) := by decide +kernel
theorem dX12_offer_69 : decode cX12_offer 69 = .ok (.istore 4, 2) := by decide +kernel
theorem dX12_offer_71 : decode cX12_offer 71 = .ok (.aload_n 0, 1) := by decide +kernel
theorem dX12_offer_72 : decode cX12_offer 72 = .ok (.getfield 13, 3) := by decide +kernel
theorem dX12_offer_75 : decode cX12_offer 75 = .ok (.iload 4, 2) := by decide +kernel
theorem dX12_offer_77 : decode cX12_offer 77 = .ok (.iaload, 1) := by decide +kernel
theorem dX12_offer_78 : decode cX12_offer 78 = .ok (.istore 5, 2) := by decide +kernel
theorem dX12_offer_80 : decode cX12_offer 80 = .ok (.aload_n 0, 1) := by decide +kernel
theorem dX12_offer_81 : decode cX12_offer 81 = .ok (.getfield 13, 3) := by decide +kernel
theorem dX12_offer_84 : decode cX12_offer 84 = .ok (.iload 4, 2) := by decide +kernel
theorem dX12_offer_86 : decode cX12_offer 86 = .ok (.iload_n 3, 1) := by decide +kernel
theorem dX12_offer_87 : decode cX12_offer 87 = .ok (.iastore, 1) := by decide +kernel
theorem dX12_offer_88 : decode cX12_offer 88 = .ok (.iload 5, 2) := by decide +kernel
theorem dX12_offer_90 : decode cX12_offer 90 = .ok (.ireturn, 1) := by decide +kernel
set_option maxRecDepth 20000 in
theorem kb_218_0 : ∀ q ∈ tb_218_0, s_atx 218 yX12_offer cX12_offer q.1 q.2 := (List.forall_mem_cons.mpr ⟨⟨s_ldAn dX12_offer_0 rfl, s_mo_ldA _ _⟩, (List.forall_mem_cons.mpr ⟨⟨s_iconst dX12_offer_1 (by decide +kernel), s_mo_push _ _⟩, (List.forall_mem_cons.mpr ⟨⟨s_putI (ci := 8) (k := 0) rfl (by decide) inX12 tyX12_ok nmX12 rfl rfl w_1221 dX12_offer_2, s_mo_putI _ _ _⟩, (List.forall_mem_cons.mpr ⟨⟨s_ldAn dX12_offer_5 rfl, s_mo_ldA _ _⟩, (List.forall_mem_cons.mpr ⟨⟨s_ldAn dX12_offer_6 rfl, s_mo_ldA _ _⟩, (List.forall_mem_cons.mpr ⟨⟨s_ldIn dX12_offer_7 rfl, s_mo_ldI _ _⟩, (List.forall_mem_cons.mpr ⟨⟨s_sV mk_218 mk_217 ok_217 (by decide +kernel) dX12_offer_8 w_1577 w_1579 wp_63 (Or.inr ⟨8, _, _, rfl, rfl⟩), s_h0 mk_218⟩, (List.forall_mem_cons.mpr ⟨⟨s_ifne dX12_offer_11 (by decide), s_mo_ifne _ _⟩, (List.forall_mem_cons.mpr ⟨⟨s_ldAn dX12_offer_14 rfl, s_mo_ldA _ _⟩, (List.forall_mem_cons.mpr ⟨⟨s_ldIn dX12_offer_15 rfl, s_mo_ldI _ _⟩, (List.forall_mem_cons.mpr ⟨⟨s_sV mk_218 mk_160 ok_160 (by decide +kernel) dX12_offer_16 w_1450 w_1452 wp_48 (Or.inr ⟨8, _, _, rfl, rfl⟩), s_h0 mk_218⟩, (List.forall_mem_cons.mpr ⟨⟨s_ifeq dX12_offer_19 (by decide), s_mo_ifeq _ _⟩, (List.forall_mem_cons.mpr ⟨⟨s_iconst dX12_offer_22 (by decide +kernel), s_mo_push _ _⟩, (List.forall_mem_cons.mpr ⟨⟨s_goto dX12_offer_23 (by decide), s_mo_goto _⟩, (List.forall_mem_cons.mpr ⟨⟨s_iconst dX12_offer_26 (by decide +kernel), s_mo_push _ _⟩, (List.forall_mem_cons.mpr ⟨⟨s_iconst dX12_offer_27 (by decide +kernel), s_mo_push _ _⟩, (List.forall_mem_cons.mpr ⟨⟨s_sV mk_218 mk_149 ok_149 (by decide +kernel) dX12_offer_28 w_1438 w_1440 wp_47 (Or.inr ⟨8, _, _, rfl, rfl⟩), s_h0 mk_218⟩, (List.forall_mem_cons.mpr ⟨⟨s_ifne dX12_offer_31 (by decide), s_mo_ifne _ _⟩, (List.forall_mem_cons.mpr ⟨⟨s_ldAn dX12_offer_34 rfl, s_mo_ldA _ _⟩, (List.forall_mem_cons.mpr ⟨⟨s_ldIn dX12_offer_35 rfl, s_mo_ldI _ _⟩, (List.forall_mem_cons.mpr ⟨⟨s_iconst dX12_offer_36 (by decide +kernel), s_mo_push _ _⟩, (List.forall_mem_cons.mpr ⟨⟨s_bipush dX12_offer_37 (by decide +kernel), s_mo_push _ _⟩, (List.forall_mem_cons.mpr ⟨⟨s_sS mk_218 mk_150 ok_150 (by decide +kernel) dX12_offer_39 w_1458 w_1459, s_h0 mk_218⟩, (List.forall_mem_cons.mpr ⟨⟨s_ifne dX12_offer_42 (by decide), s_mo_ifne _ _⟩, (List.forall_mem_cons.mpr ⟨⟨s_iconst dX12_offer_45 (by decide +kernel), s_mo_push _ _⟩, (List.forall_mem_cons.mpr ⟨⟨s_goto dX12_offer_46 (by decide), s_mo_goto _⟩, (List.forall_mem_cons.mpr ⟨⟨s_iconst dX12_offer_49 (by decide +kernel), s_mo_push _ _⟩, (List.forall_mem_cons.mpr ⟨⟨s_iconst dX12_offer_50 (by decide +kernel), s_mo_push _ _⟩, (List.forall_mem_cons.mpr ⟨⟨s_sV mk_218 mk_149 ok_149 (by decide +kernel) dX12_offer_51 w_1438 w_1440 wp_47 (Or.inr ⟨8, _, _, rfl, rfl⟩), s_h0 mk_218⟩, (List.forall_mem_cons.mpr ⟨⟨s_ifeq dX12_offer_54 (by decide), s_mo_ifeq _ _⟩, (List.forall_mem_cons.mpr ⟨⟨s_iconst dX12_offer_57 (by decide +kernel), s_mo_push _ _⟩, (List.forall_mem_cons.mpr ⟨s_r1 mk_218 dX12_offer_58, (List.forall_mem_cons.mpr ⟨⟨s_sipush dX12_offer_59 (by decide +kernel), s_mo_push _ _⟩, (List.forall_mem_cons.mpr ⟨⟨s_bipush dX12_offer_62 (by decide +kernel), s_mo_push _ _⟩, (fun _ h => absurd h List.not_mem_nil)⟩)⟩)⟩)⟩)⟩)⟩)⟩)⟩)⟩)⟩)⟩)⟩)⟩)⟩)⟩)⟩)⟩)⟩)⟩)⟩)⟩)⟩)⟩)⟩)⟩)⟩)⟩)⟩)⟩)⟩)⟩)⟩)⟩)⟩)
set_option maxRecDepth 20000 in
theorem kb_218_1 : ∀ q ∈ tb_218_1, s_atx 218 yX12_offer cX12_offer q.1 q.2 := (List.forall_mem_cons.mpr ⟨⟨s_ldIn dX12_offer_64 rfl, s_mo_ldI _ _⟩, (List.forall_mem_cons.mpr ⟨⟨s_imul dX12_offer_65, s_mo_bin _ _⟩, (List.forall_mem_cons.mpr ⟨⟨s_iadd dX12_offer_66, s_mo_bin _ _⟩, (List.forall_mem_cons.mpr ⟨⟨s_ldIn dX12_offer_67 rfl, s_mo_ldI _ _⟩, (List.forall_mem_cons.mpr ⟨⟨s_iadd dX12_offer_68, s_mo_bin _ _⟩, (List.forall_mem_cons.mpr ⟨⟨s_stI dX12_offer_69, s_mo_stI _ _⟩, (List.forall_mem_cons.mpr ⟨⟨s_ldAn dX12_offer_71 rfl, s_mo_ldA _ _⟩, (List.forall_mem_cons.mpr ⟨⟨s_getf (ci := 8) (k := 1) rfl (by decide) inX12 w_1222 dX12_offer_72, s_mo_getf _ _ _⟩, (List.forall_mem_cons.mpr ⟨⟨s_ldI dX12_offer_75, s_mo_ldI _ _⟩, (List.forall_mem_cons.mpr ⟨⟨s_iald dX12_offer_77, s_mo_iald _⟩, (List.forall_mem_cons.mpr ⟨⟨s_stI dX12_offer_78, s_mo_stI _ _⟩, (List.forall_mem_cons.mpr ⟨⟨s_ldAn dX12_offer_80 rfl, s_mo_ldA _ _⟩, (List.forall_mem_cons.mpr ⟨⟨s_getf (ci := 8) (k := 1) rfl (by decide) inX12 w_1222 dX12_offer_81, s_mo_getf _ _ _⟩, (List.forall_mem_cons.mpr ⟨⟨s_ldI dX12_offer_84, s_mo_ldI _ _⟩, (List.forall_mem_cons.mpr ⟨⟨s_ldIn dX12_offer_86 rfl, s_mo_ldI _ _⟩, (List.forall_mem_cons.mpr ⟨⟨s_iast dX12_offer_87, s_mo_iast _⟩, (List.forall_mem_cons.mpr ⟨⟨s_ldI dX12_offer_88, s_mo_ldI _ _⟩, (List.forall_mem_cons.mpr ⟨s_r1 mk_218 dX12_offer_90, (fun _ h => absurd h List.not_mem_nil)⟩)⟩)⟩)⟩)⟩)⟩)⟩)⟩)⟩)⟩)⟩)⟩)⟩)⟩)⟩)⟩)⟩)⟩)
theorem km_218 : ∀ t ∈ tm_218, s_tok 218 t := (List.forall_mem_cons.mpr ⟨s_lift mk_218 kb_218_0, (List.forall_mem_cons.mpr ⟨s_lift mk_218 kb_218_1, (fun _ h => absurd h List.not_mem_nil)⟩)⟩)
theorem dX12_mostOf_0 : decode cX12_mostOf 0 = .ok (.iconst 0, 1) := by decide +kernel
theorem dX12_mostOf_1 : decode cX12_mostOf 1 = .ok (.istore_n 2, 1) := by decide +kernel
theorem dX12_mostOf_2 : decode cX12_mostOf 2 = .ok (.iload_n 2, 1) := by decide +kernel
theorem dX12_mostOf_3 : decode cX12_mostOf 3 = .ok (.bipush 64, 2) := by decide +kernel
theorem dX12_mostOf_5 : decode cX12_mostOf 5 = .ok (.if_icmp .ge 16, 3) := by decide +kernel
theorem dX12_mostOf_8 : decode cX12_mostOf 8 = .ok (.aload_n 0, 1) := by decide +kernel
theorem dX12_mostOf_9 : decode cX12_mostOf 9 = .ok (.getfield 42, 3) := by decide +kernel
theorem dX12_mostOf_12 : decode cX12_mostOf 12 = .ok (.iload_n 2, 1) := by decide +kernel
theorem dX12_mostOf_13 : decode cX12_mostOf 13 = .ok (.iconst 0, 1) := by decide +kernel
theorem dX12_mostOf_14 : decode cX12_mostOf 14 = .ok (.iastore, 1) := by decide +kernel
theorem dX12_mostOf_15 : decode cX12_mostOf 15 = .ok (.iinc 2 1, 3) := by decide +kernel
theorem dX12_mostOf_18 : decode cX12_mostOf 18 = .ok (.goto (-16), 3) := by decide +kernel
theorem dX12_mostOf_21 : decode cX12_mostOf 21 = .ok (.iconst 0, 1) := by decide +kernel
theorem dX12_mostOf_22 : decode cX12_mostOf 22 = .ok (.istore_n 2, 1) := by decide +kernel
theorem dX12_mostOf_23 : decode cX12_mostOf 23 = .ok (.iload_n 2, 1) := by decide +kernel
theorem dX12_mostOf_24 : decode cX12_mostOf 24 = .ok (.aload_n 0, 1) := by decide +kernel
theorem dX12_mostOf_25 : decode cX12_mostOf 25 = .ok (.invokevirtual 80, 3) := by decide +kernel
theorem dX12_mostOf_28 : decode cX12_mostOf 28 = .ok (.if_icmp .ge 106, 3) := by decide +kernel
theorem dX12_mostOf_31 : decode cX12_mostOf 31 = .ok (.aload_n 0, 1) := by decide +kernel
theorem dX12_mostOf_32 : decode cX12_mostOf 32 = .ok (.getfield 301, 3) := by decide +kernel
theorem dX12_mostOf_35 : decode cX12_mostOf 35 = .ok (.iload_n 2, 1) := by decide +kernel
theorem dX12_mostOf_36 : decode cX12_mostOf 36 = .ok (.invokestatic 304, 3) := by decide +kernel
theorem dX12_mostOf_39 : decode cX12_mostOf 39 = .ok (.ifCond .ne 6, 3) := by decide +kernel
theorem dX12_mostOf_42 : decode cX12_mostOf 42 = .ok (.goto 86, 3) := by decide +kernel
theorem dX12_mostOf_45 : decode cX12_mostOf 45 = .ok (.bipush 63, 2) := by decide +kernel
theorem dX12_mostOf_47 : decode cX12_mostOf 47 = .ok (.istore_n 3, 1) := by decide +kernel
theorem dX12_mostOf_48 : decode cX12_mostOf 48 = .ok (.iload_n 3, 1) := by decide +kernel
theorem dX12_mostOf_49 : decode cX12_mostOf 49 = .ok (.ifCond .le 79, 3) := by decide +kernel
theorem dX12_mostOf_52 : decode cX12_mostOf 52 = .ok (.iconst 0, 1) := by decide +kernel
theorem dX12_mostOf_53 : decode cX12_mostOf 53 = .ok (.istore 4, 2) := by decide +kernel
theorem dX12_mostOf_55 : decode cX12_mostOf 55 = .ok (.iload 4, 2) := by decide +kernel
theorem dX12_mostOf_57 : decode cX12_mostOf 57 = .ok (.bipush 6, 2) := by decide +kernel
theorem dX12_mostOf_59 : decode cX12_mostOf 59 = .ok (.if_icmp .ge 63, 3) := by decide +kernel
theorem dX12_mostOf_62 : decode cX12_mostOf 62 = .ok (.iload_n 3, 1) := by decide +kernel
theorem dX12_mostOf_63 : decode cX12_mostOf 63 = .ok (.iload 4, 2) := by decide +kernel
theorem dX12_mostOf_65 : decode cX12_mostOf 65 = .ok (.invokestatic 304, 3) := by decide +kernel
theorem dX12_mostOf_68 : decode cX12_mostOf 68 = .ok (.ifCond .eq 48, 3) := by decide +kernel
theorem dX12_mostOf_71 : decode cX12_mostOf 71 = .ok (.aload_n 0, 1) := by decide +kernel
theorem dX12_mostOf_72 : decode cX12_mostOf 72 = .ok (.getfield 42, 3) := by decide +kernel
theorem dX12_mostOf_75 : decode cX12_mostOf 75 = .ok (.iload_n 3, 1) := by decide +kernel
theorem dX12_mostOf_76 : decode cX12_mostOf 76 = .ok (.aload_n 0, 1) := by decide +kernel
theorem dX12_mostOf_77 : decode cX12_mostOf 77 = .ok (.getfield 42, 3) := by decide +kernel
theorem dX12_mostOf_80 : decode cX12_mostOf 80 = .ok (.iload_n 3, 1) := by decide +kernel
theorem dX12_mostOf_81 : decode cX12_mostOf 81 = .ok (.iaload, 1) := by decide +kernel
theorem dX12_mostOf_82 : decode cX12_mostOf 82 = .ok (.aload_n 0, 1) := by decide +kernel
theorem dX12_mostOf_83 : decode cX12_mostOf 83 = .ok (.getfield 42, 3) := by decide +kernel
theorem dX12_mostOf_86 : decode cX12_mostOf 86 = .ok (.iload_n 3, 1) := by decide +kernel
theorem dX12_mostOf_87 : decode cX12_mostOf 87 = .ok (.iconst 1, 1) := by decide +kernel
theorem dX12_mostOf_88 : decode cX12_mostOf 88 = .ok (.iload 4, 2) := by decide +kernel
theorem dX12_mostOf_90 : decode cX12_mostOf 90 = .ok (.ishl, 1) := by decide +kernel
theorem dX12_mostOf_91 : decode cX12_mostOf 91 = .ok (.iconst (-1), 1) := by decide +kernel
theorem dX12_mostOf_92 : decode cX12_mostOf 92 = .ok (.ixor, 1) := by decide +kernel
theorem dX12_mostOf_93 : decode cX12_mostOf 93 = .ok (.iand, 1) := by decide +kernel
theorem dX12_mostOf_94 : decode cX12_mostOf 94 = .ok (.iaload, 1) := by decide +kernel
theorem dX12_mostOf_95 : decode cX12_mostOf 95 = .ok (.aload_n 0, 1) := by decide +kernel
theorem dX12_mostOf_96 : decode cX12_mostOf 96 = .ok (.getfield 13, 3) := by decide +kernel
theorem dX12_mostOf_99 : decode cX12_mostOf 99 = .ok (.sipush 247, 3) := by decide +kernel
theorem dX12_mostOf_102 : decode cX12_mostOf 102 = .ok (.bipush 30, 2) := by decide +kernel
theorem dX12_mostOf_104 : decode cX12_mostOf 104 = .ok (.iload 4, 2) := by decide +kernel
theorem dX12_mostOf_106 : decode cX12_mostOf 106 = .ok (.imul, 1) := by decide +kernel
theorem dX12_mostOf_107 : decode cX12_mostOf 107 = .ok (.iadd, 1) := by decide +kernel
theorem dX12_mostOf_108 : decode cX12_mostOf 108 = .ok (.iload_n 2, 1) := by decide +kernel
theorem dX12_mostOf_109 : decode cX12_mostOf 109 = .ok (.iadd, 1) := by decide +kernel
theorem dX12_mostOf_110 : decode cX12_mostOf 110 = .ok (.iaload, 1) := by decide +kernel
theorem dX12_mostOf_111 : decode cX12_mostOf 111 = .ok (.iadd, 1) := by decide +kernel
theorem dX12_mostOf_112 : decode cX12_mostOf 112 = .ok (.invokestatic 249, 3) := by decide +kernel
theorem dX12_mostOf_115 : decode cX12_mostOf 115 = .ok (.iastore, 1) := by decide +kernel
theorem dX12_mostOf_116 : decode cX12_mostOf 116 = .ok (.iinc 4 1, 3) := by decide +kernel
theorem dX12_mostOf_119 : decode cX12_mostOf 119 = .ok (.goto (-64), 3) := by decide +kernel
theorem dX12_mostOf_122 : decode cX12_mostOf 122 = .ok (.iinc 3 (-1), 3) := by decide +kernel
theorem dX12_mostOf_125 : decode cX12_mostOf 125 = .ok (.goto (-77), 3) := by decide +kernel
theorem dX12_mostOf_128 : decode cX12_mostOf 128 = .ok (.iinc 2 1, 3) := by decide +kernel
theorem dX12_mostOf_131 : decode cX12_mostOf 131 = .ok (.goto (-108), 3) := by decide +kernel
theorem dX12_mostOf_134 : decode cX12_mostOf 134 = .ok (.aload_n 0, 1) := by decide +kernel
theorem dX12_mostOf_135 : decode cX12_mostOf 135 = .ok (.getfield 42, 3) := by decide +kernel
theorem dX12_mostOf_138 : decode cX12_mostOf 138 = .ok (.iload_n 1, 1) := by decide +kernel
theorem dX12_mostOf_139 : decode cX12_mostOf 139 = .ok (.iaload, 1) := by decide +kernel
theorem dX12_mostOf_140 : decode cX12_mostOf 140 = .ok (.ireturn, 1) := by decide +kernel
set_option maxRecDepth 20000 in
theorem kb_219_0 : ∀ q ∈ tb_219_0, s_atx 219 yX12_mostOf cX12_mostOf q.1 q.2 := (List.forall_mem_cons.mpr ⟨⟨s_iconst dX12_mostOf_0 (by decide +kernel), s_mo_push _ _⟩, (List.forall_mem_cons.mpr ⟨⟨s_stIn dX12_mostOf_1 rfl, s_mo_stI _ _⟩, (List.forall_mem_cons.mpr ⟨⟨s_ldIn dX12_mostOf_2 rfl, s_mo_ldI _ _⟩, (List.forall_mem_cons.mpr ⟨⟨s_bipush dX12_mostOf_3 (by decide +kernel), s_mo_push _ _⟩, (List.forall_mem_cons.mpr ⟨⟨s_icge dX12_mostOf_5 (by decide), s_mo_icge _ _⟩, (List.forall_mem_cons.mpr ⟨⟨s_ldAn dX12_mostOf_8 rfl, s_mo_ldA _ _⟩, (List.forall_mem_cons.mpr ⟨⟨s_getf (ci := 8) (k := 18) rfl (by decide) inX12 w_1239 dX12_mostOf_9, s_mo_getf _ _ _⟩, (List.forall_mem_cons.mpr ⟨⟨s_ldIn dX12_mostOf_12 rfl, s_mo_ldI _ _⟩, (List.forall_mem_cons.mpr ⟨⟨s_iconst dX12_mostOf_13 (by decide +kernel), s_mo_push _ _⟩, (List.forall_mem_cons.mpr ⟨⟨s_iast dX12_mostOf_14, s_mo_iast _⟩, (List.forall_mem_cons.mpr ⟨⟨s_inc dX12_mostOf_15 (by decide +kernel), s_mo_inc _ _ _⟩, (List.forall_mem_cons.mpr ⟨⟨s_goto dX12_mostOf_18 (by decide), s_mo_goto _⟩, (List.forall_mem_cons.mpr ⟨⟨s_iconst dX12_mostOf_21 (by decide +kernel), s_mo_push _ _⟩, (List.forall_mem_cons.mpr ⟨⟨s_stIn dX12_mostOf_22 rfl, s_mo_stI _ _⟩, (List.forall_mem_cons.mpr ⟨⟨s_ldIn dX12_mostOf_23 rfl, s_mo_ldI _ _⟩, (List.forall_mem_cons.mpr ⟨⟨s_ldAn dX12_mostOf_24 rfl, s_mo_ldA _ _⟩, (List.forall_mem_cons.mpr ⟨⟨s_sV mk_219 mk_156 ok_156 (by decide +kernel) dX12_mostOf_25 w_1454 w_1456 wp_49 (Or.inr ⟨8, _, _, rfl, rfl⟩), s_h0 mk_219⟩, (List.forall_mem_cons.mpr ⟨⟨s_icge dX12_mostOf_28 (by decide), s_mo_icge _ _⟩, (List.forall_mem_cons.mpr ⟨⟨s_ldAn dX12_mostOf_31 rfl, s_mo_ldA _ _⟩, (List.forall_mem_cons.mpr ⟨⟨s_getf (ci := 8) (k := 19) rfl (by decide) inX12 w_1240 dX12_mostOf_32, s_mo_getf _ _ _⟩, (List.forall_mem_cons.mpr ⟨⟨s_ldIn dX12_mostOf_35 rfl, s_mo_ldI _ _⟩, (List.forall_mem_cons.mpr ⟨⟨s_sS mk_219 mk_164 ok_164 (by decide +kernel) dX12_mostOf_36 w_1593 w_1594, s_h0 mk_219⟩, (List.forall_mem_cons.mpr ⟨⟨s_ifne dX12_mostOf_39 (by decide), s_mo_ifne _ _⟩, (List.forall_mem_cons.mpr ⟨⟨s_goto dX12_mostOf_42 (by decide), s_mo_goto _⟩, (List.forall_mem_cons.mpr ⟨⟨s_bipush dX12_mostOf_45 (by decide +kernel), s_mo_push _ _⟩, (List.forall_mem_cons.mpr ⟨⟨s_stIn dX12_mostOf_47 rfl, s_mo_stI _ _⟩, (List.forall_mem_cons.mpr ⟨⟨s_ldIn dX12_mostOf_48 rfl, s_mo_ldI _ _⟩, (List.forall_mem_cons.mpr ⟨⟨s_ifle dX12_mostOf_49 (by decide), s_mo_ifle _ _⟩, (List.forall_mem_cons.mpr ⟨⟨s_iconst dX12_mostOf_52 (by decide +kernel), s_mo_push _ _⟩, (List.forall_mem_cons.mpr ⟨⟨s_stI dX12_mostOf_53, s_mo_stI _ _⟩, (List.forall_mem_cons.mpr ⟨⟨s_ldI dX12_mostOf_55, s_mo_ldI _ _⟩, (List.forall_mem_cons.mpr ⟨⟨s_bipush dX12_mostOf_57 (by decide +kernel), s_mo_push _ _⟩, (List.forall_mem_cons.mpr ⟨⟨s_icge dX12_mostOf_59 (by decide), s_mo_icge _ _⟩, (List.forall_mem_cons.mpr ⟨⟨s_ldIn dX12_mostOf_62 rfl, s_mo_ldI _ _⟩, (List.forall_mem_cons.mpr ⟨⟨s_ldI dX12_mostOf_63, s_mo_ldI _ _⟩, (fun _ h => absurd h List.not_mem_nil)⟩)⟩)⟩)⟩)⟩)⟩)⟩)⟩)⟩)⟩)⟩)⟩)⟩)⟩)⟩)⟩)⟩)⟩)⟩)⟩)⟩)⟩)⟩)⟩)⟩)⟩)⟩)⟩)⟩)⟩)⟩)⟩)⟩)⟩)⟩)
set_option maxRecDepth 20000 in
theorem kb_219_1 : ∀ q ∈ tb_219_1, s_atx 219 yX12_mostOf cX12_mostOf q.1 q.2 := (List.forall_mem_cons.mpr ⟨⟨s_sS mk_219 mk_164 ok_164 (by decide +kernel) dX12_mostOf_65 w_1593 w_1594, s_h0 mk_219⟩, (List.forall_mem_cons.mpr ⟨⟨s_ifeq dX12_mostOf_68 (by decide), s_mo_ifeq _ _⟩, (List.forall_mem_cons.mpr ⟨⟨s_ldAn dX12_mostOf_71 rfl, s_mo_ldA _ _⟩, (List.forall_mem_cons.mpr ⟨⟨s_getf (ci := 8) (k := 18) rfl (by decide) inX12 w_1239 dX12_mostOf_72, s_mo_getf _ _ _⟩, (List.forall_mem_cons.mpr ⟨⟨s_ldIn dX12_mostOf_75 rfl, s_mo_ldI _ _⟩, (List.forall_mem_cons.mpr ⟨⟨s_ldAn dX12_mostOf_76 rfl, s_mo_ldA _ _⟩, (List.forall_mem_cons.mpr ⟨⟨s_getf (ci := 8) (k := 18) rfl (by decide) inX12 w_1239 dX12_mostOf_77, s_mo_getf _ _ _⟩, (List.forall_mem_cons.mpr ⟨⟨s_ldIn dX12_mostOf_80 rfl, s_mo_ldI _ _⟩, (List.forall_mem_cons.mpr ⟨⟨s_iald dX12_mostOf_81, s_mo_iald _⟩, (List.forall_mem_cons.mpr ⟨⟨s_ldAn dX12_mostOf_82 rfl, s_mo_ldA _ _⟩, (List.forall_mem_cons.mpr ⟨⟨s_getf (ci := 8) (k := 18) rfl (by decide) inX12 w_1239 dX12_mostOf_83, s_mo_getf _ _ _⟩, (List.forall_mem_cons.mpr ⟨⟨s_ldIn dX12_mostOf_86 rfl, s_mo_ldI _ _⟩, (List.forall_mem_cons.mpr ⟨⟨s_iconst dX12_mostOf_87 (by decide +kernel), s_mo_push _ _⟩, (List.forall_mem_cons.mpr ⟨⟨s_ldI dX12_mostOf_88, s_mo_ldI _ _⟩, (List.forall_mem_cons.mpr ⟨⟨s_ishl dX12_mostOf_90, s_mo_bin _ _⟩, (List.forall_mem_cons.mpr ⟨⟨s_iconst dX12_mostOf_91 (by decide +kernel), s_mo_push _ _⟩, (List.forall_mem_cons.mpr ⟨⟨s_ixor dX12_mostOf_92, s_mo_bin _ _⟩, (List.forall_mem_cons.mpr ⟨⟨s_iand dX12_mostOf_93, s_mo_bin _ _⟩, (List.forall_mem_cons.mpr ⟨⟨s_iald dX12_mostOf_94, s_mo_iald _⟩, (List.forall_mem_cons.mpr ⟨⟨s_ldAn dX12_mostOf_95 rfl, s_mo_ldA _ _⟩, (List.forall_mem_cons.mpr ⟨⟨s_getf (ci := 8) (k := 1) rfl (by decide) inX12 w_1222 dX12_mostOf_96, s_mo_getf _ _ _⟩, (List.forall_mem_cons.mpr ⟨⟨s_sipush dX12_mostOf_99 (by decide +kernel), s_mo_push _ _⟩, (List.forall_mem_cons.mpr ⟨⟨s_bipush dX12_mostOf_102 (by decide +kernel), s_mo_push _ _⟩, (List.forall_mem_cons.mpr ⟨⟨s_ldI dX12_mostOf_104, s_mo_ldI _ _⟩, (List.forall_mem_cons.mpr ⟨⟨s_imul dX12_mostOf_106, s_mo_bin _ _⟩, (List.forall_mem_cons.mpr ⟨⟨s_iadd dX12_mostOf_107, s_mo_bin _ _⟩, (List.forall_mem_cons.mpr ⟨⟨s_ldIn dX12_mostOf_108 rfl, s_mo_ldI _ _⟩, (List.forall_mem_cons.mpr ⟨⟨s_iadd dX12_mostOf_109, s_mo_bin _ _⟩, (List.forall_mem_cons.mpr ⟨⟨s_iald dX12_mostOf_110, s_mo_iald _⟩, (List.forall_mem_cons.mpr ⟨⟨s_iadd dX12_mostOf_111, s_mo_bin _ _⟩, (List.forall_mem_cons.mpr ⟨⟨s_mx w_1474 ws_mx w_mi wc_mx dX12_mostOf_112, s_mo_mx _⟩, (List.forall_mem_cons.mpr ⟨⟨s_iast dX12_mostOf_115, s_mo_iast _⟩, (List.forall_mem_cons.mpr ⟨⟨s_inc dX12_mostOf_116 (by decide +kernel), s_mo_inc _ _ _⟩, (List.forall_mem_cons.mpr ⟨⟨s_goto dX12_mostOf_119 (by decide), s_mo_goto _⟩, (List.forall_mem_cons.mpr ⟨⟨s_inc dX12_mostOf_122 (by decide +kernel), s_mo_inc _ _ _⟩, (List.forall_mem_cons.mpr ⟨⟨s_goto dX12_mostOf_125 (by decide), s_mo_goto _⟩, (fun _ h => absurd h List.not_mem_nil)⟩)⟩)⟩)⟩)⟩)⟩)⟩)⟩)⟩)⟩)⟩)⟩)⟩)⟩)⟩)⟩)⟩)⟩)⟩)⟩)⟩)⟩)⟩)⟩)⟩)⟩)⟩)⟩)⟩)⟩)⟩)⟩)⟩)⟩)⟩)⟩)
set_option maxRecDepth 20000 in
theorem kb_219_2 : ∀ q ∈ tb_219_2, s_atx 219 yX12_mostOf cX12_mostOf q.1 q.2 := (List.forall_mem_cons.mpr ⟨⟨s_inc dX12_mostOf_128 (by decide +kernel), s_mo_inc _ _ _⟩, (List.forall_mem_cons.mpr ⟨⟨s_goto dX12_mostOf_131 (by decide), s_mo_goto _⟩, (List.forall_mem_cons.mpr ⟨⟨s_ldAn dX12_mostOf_134 rfl, s_mo_ldA _ _⟩, (List.forall_mem_cons.mpr ⟨⟨s_getf (ci := 8) (k := 18) rfl (by decide) inX12 w_1239 dX12_mostOf_135, s_mo_getf _ _ _⟩, (List.forall_mem_cons.mpr ⟨⟨s_ldIn dX12_mostOf_138 rfl, s_mo_ldI _ _⟩, (List.forall_mem_cons.mpr ⟨⟨s_iald dX12_mostOf_139, s_mo_iald _⟩, (List.forall_mem_cons.mpr ⟨s_r1 mk_219 dX12_mostOf_140, (fun _ h => absurd h List.not_mem_nil)⟩)⟩)⟩)⟩)⟩)⟩)⟩)
theorem km_219 : ∀ t ∈ tm_219, s_tok 219 t := (List.forall_mem_cons.mpr ⟨s_lift mk_219 kb_219_0, (List.forall_mem_cons.mpr ⟨s_lift mk_219 kb_219_1, (List.forall_mem_cons.mpr ⟨s_lift mk_219 kb_219_2, (fun _ h => absurd h List.not_mem_nil)⟩)⟩)⟩)
theorem dX12_sells_0 : decode cX12_sells 0 = .ok (.aload_n 0, 1) := by decide +kernel
theorem dX12_sells_1 : decode cX12_sells 1 = .ok (.iconst 0, 1) := by decide +kernel
theorem dX12_sells_2 : decode cX12_sells 2 = .ok (.putfield 301, 3) := by decide +kernel
theorem dX12_sells_5 : decode cX12_sells 5 = .ok (.iconst 0, 1) := by decide +kernel
theorem dX12_sells_6 : decode cX12_sells 6 = .ok (.istore_n 2, 1) := by decide +kernel
theorem dX12_sells_7 : decode cX12_sells 7 = .ok (.iload_n 2, 1) := by decide +kernel
theorem dX12_sells_8 : decode cX12_sells 8 = .ok (.aload_n 0, 1) := by decide +kernel
theorem dX12_sells_9 : decode cX12_sells 9 = .ok (.invokevirtual 80, 3) := by decide +kernel
theorem dX12_sells_12 : decode cX12_sells 12 = .ok (.if_icmp .ge 34, 3) := by decide +kernel
theorem dX12_sells_15 : decode cX12_sells 15 = .ok (.aload_n 0, 1) := by decide +kernel
theorem dX12_sells_16 : decode cX12_sells 16 = .ok (.dup, 1) := by decide +kernel
theorem dX12_sells_17 : decode cX12_sells 17 = .ok (.getfield 301, 3) := by decide +kernel
theorem dX12_sells_20 : decode cX12_sells 20 = .ok (.aload_n 0, 1) := by decide +kernel
theorem dX12_sells_21 : decode cX12_sells 21 = .ok (.iload_n 2, 1) := by decide +kernel
theorem dX12_sells_22 : decode cX12_sells 22 = .ok (.iload_n 1, 1) := by decide +kernel
theorem dX12_sells_23 : decode cX12_sells 23 = .ok (.invokevirtual 295, 3) := by decide +kernel
theorem dX12_sells_26 : decode cX12_sells 26 = .ok (.ifCond .eq 9, 3) := by decide +kernel
theorem dX12_sells_29 : decode cX12_sells 29 = .ok (.iconst 1, 1) := by decide +kernel
theorem dX12_sells_30 : decode cX12_sells 30 = .ok (.iload_n 2, 1) := by decide +kernel
theorem dX12_sells_31 : decode cX12_sells 31 = .ok (.ishl, 1) := by decide +kernel
theorem dX12_sells_32 : decode cX12_sells 32 = .ok (.goto 4, 3) := by decide +kernel
theorem dX12_sells_35 : decode cX12_sells 35 = .ok (.iconst 0, 1) := by decide +kernel
theorem dX12_sells_36 : decode cX12_sells 36 = .ok (.ior, 1) := by decide +kernel
theorem dX12_sells_37 : decode cX12_sells 37 = .ok (.putfield 301, 3) := by decide +kernel
theorem dX12_sells_40 : decode cX12_sells 40 = .ok (.iinc 2 1, 3) := by decide +kernel
theorem dX12_sells_43 : decode cX12_sells 43 = .ok (.goto (-36), 3) := by decide +kernel
theorem dX12_sells_46 : decode cX12_sells 46 = .ok (.iconst 1, 1) := by decide +kernel
theorem dX12_sells_47 : decode cX12_sells 47 = .ok (.aload_n 0, 1) := by decide +kernel
theorem dX12_sells_48 : decode cX12_sells 48 = .ok (.getfield 13, 3) := by decide +kernel
theorem dX12_sells_51 : decode cX12_sells 51 = .ok (.iconst 5, 1) := by decide +kernel
theorem dX12_sells_52 : decode cX12_sells 52 = .ok (.iaload, 1) := by decide +kernel
theorem dX12_sells_53 : decode cX12_sells 53 = .ok (.ishl, 1) := by decide +kernel
theorem dX12_sells_54 : decode cX12_sells 54 = .ok (.iconst 1, 1) := by decide +kernel
theorem dX12_sells_55 : decode cX12_sells 55 = .ok (.isub, 1) := by decide +kernel
theorem dX12_sells_56 : decode cX12_sells 56 = .ok (.istore_n 2, 1) := by decide +kernel
theorem dX12_sells_57 : decode cX12_sells 57 = .ok (.aload_n 0, 1) := by decide +kernel
theorem dX12_sells_58 : decode cX12_sells 58 = .ok (.iload_n 2, 1) := by decide +kernel
theorem dX12_sells_59 : decode cX12_sells 59 = .ok (.invokevirtual 307, 3) := by decide +kernel
theorem dX12_sells_62 : decode cX12_sells 62 = .ok (.istore_n 3, 1) := by decide +kernel
theorem dX12_sells_63 : decode cX12_sells 63 = .ok (.iload_n 3, 1) := by decide +kernel
theorem dX12_sells_64 : decode cX12_sells 64 = .ok (.istore 4, 2) := by decide +kernel
theorem dX12_sells_66 : decode cX12_sells 66 = .ok (.iconst 0, 1) := by decide +kernel
theorem dX12_sells_67 : decode cX12_sells 67 = .ok (.istore 5, 2) := by decide +kernel
theorem dX12_sells_69 : decode cX12_sells 69 = .ok (.iload 5, 2) := by decide +kernel
theorem dX12_sells_71 : decode cX12_sells 71 = .ok (.aload_n 0, 1) := by decide +kernel
theorem dX12_sells_72 : decode cX12_sells 72 = .ok (.getfield 13, 3) := by decide +kernel
theorem dX12_sells_75 : decode cX12_sells 75 = .ok (.iconst 5, 1) := by decide +kernel
theorem dX12_sells_76 : decode cX12_sells 76 = .ok (.iaload, 1) := by decide +kernel
theorem dX12_sells_77 : decode cX12_sells 77 = .ok (.if_icmp .ge 193, 3) := by decide +kernel
theorem dX12_sells_80 : decode cX12_sells 80 = .ok (.iload_n 2, 1) := by decide +kernel
theorem dX12_sells_81 : decode cX12_sells 81 = .ok (.iconst 1, 1) := by decide +kernel
theorem dX12_sells_82 : decode cX12_sells 82 = .ok (.iload 5, 2) := by decide +kernel
theorem dX12_sells_84 : decode cX12_sells 84 = .ok (.ishl, 1) := by decide +kernel
theorem dX12_sells_85 : decode cX12_sells 85 = .ok (.iconst (-1), 1) := by decide +kernel
theorem dX12_sells_86 : decode cX12_sells 86 = .ok (.ixor, 1) := by decide +kernel
theorem dX12_sells_87 : decode cX12_sells 87 = .ok (.iand, 1) := by decide +kernel
theorem dX12_sells_88 : decode cX12_sells 88 = .ok (.istore_n 2, 1) := by decide +kernel
theorem dX12_sells_89 : decode cX12_sells 89 = .ok (.aload_n 0, 1) := by decide +kernel
theorem dX12_sells_90 : decode cX12_sells 90 = .ok (.getfield 39, 3) := by decide +kernel
theorem dX12_sells_93 : decode cX12_sells 93 = .ok (.iload 5, 2) := by decide +kernel
theorem dX12_sells_95 : decode cX12_sells 95 = .ok (.iconst (-1), 1) := by decide +kernel
theorem dX12_sells_96 : decode cX12_sells 96 = .ok (.iastore, 1) := by decide +kernel
theorem dX12_sells_97 : decode cX12_sells 97 = .ok (.aload_n 0, 1) := by decide +kernel
theorem dX12_sells_98 : decode cX12_sells 98 = .ok (.getfield 301, 3) := by decide +kernel
theorem dX12_sells_101 : decode cX12_sells 101 = .ok (.istore 6, 2) := by decide +kernel
theorem dX12_sells_103 : decode cX12_sells 103 = .ok (.aload_n 0, 1) := by decide +kernel
theorem dX12_sells_104 : decode cX12_sells 104 = .ok (.iload_n 2, 1) := by decide +kernel
theorem dX12_sells_105 : decode cX12_sells 105 = .ok (.invokevirtual 307, 3) := by decide +kernel
theorem dX12_sells_108 : decode cX12_sells 108 = .ok (.iload 4, 2) := by decide +kernel
theorem dX12_sells_110 : decode cX12_sells 110 = .ok (.if_icmp .ne 7, 3) := by decide +kernel
theorem dX12_sells_113 : decode cX12_sells 113 = .ok (.iconst 1, 1) := by decide +kernel
theorem dX12_sells_114 : decode cX12_sells 114 = .ok (.goto 4, 3) := by decide +kernel
theorem dX12_sells_117 : decode cX12_sells 117 = .ok (.iconst 0, 1) := by decide +kernel
theorem dX12_sells_118 : decode cX12_sells 118 = .ok (.istore 7, 2) := by decide +kernel
theorem dX12_sells_120 : decode cX12_sells 120 = .ok (.iconst 0, 1) := by decide +kernel
theorem dX12_sells_121 : decode cX12_sells 121 = .ok (.istore 8, 2) := by decide +kernel
theorem dX12_sells_123 : decode cX12_sells 123 = .ok (.iload 8, 2) := by decide +kernel
theorem dX12_sells_125 : decode cX12_sells 125 = .ok (.aload_n 0, 1) := by decide +kernel
theorem dX12_sells_126 : decode cX12_sells 126 = .ok (.invokevirtual 80, 3) := by decide +kernel
theorem dX12_sells_129 : decode cX12_sells 129 = .ok (.if_icmp .ge 89, 3) := by decide +kernel
theorem dX12_sells_132 : decode cX12_sells 132 = .ok (.iload 7, 2) := by decide +kernel
theorem dX12_sells_134 : decode cX12_sells 134 = .ok (.ifCond .ne 84, 3) := by decide +kernel
theorem dX12_sells_137 : decode cX12_sells 137 = .ok (.iload 6, 2) := by decide +kernel
theorem dX12_sells_139 : decode cX12_sells 139 = .ok (.iload 8, 2) := by decide +kernel
theorem dX12_sells_141 : decode cX12_sells 141 = .ok (.invokestatic 304, 3) := by decide +kernel
theorem dX12_sells_144 : decode cX12_sells 144 = .ok (.ifCond .ne 6, 3) := by decide +kernel
theorem dX12_sells_147 : decode cX12_sells 147 = .ok (.goto 65, 3) := by decide +kernel
theorem dX12_sells_150 : decode cX12_sells 150 = .ok (.aload_n 0, 1) := by decide +kernel
theorem dX12_sells_151 : decode cX12_sells 151 = .ok (.iload 6, 2) := by decide +kernel
theorem dX12_sells_153 : decode cX12_sells 153 = .ok (.iconst 1, 1) := by decide +kernel
theorem dX12_sells_154 : decode cX12_sells 154 = .ok (.iload 8, 2) := by decide +kernel
theorem dX12_sells_156 : decode cX12_sells 156 = .ok (.ishl, 1) := by decide +kernel
theorem dX12_sells_157 : decode cX12_sells 157 = .ok (.iconst (-1), 1) := by decide +kernel
theorem dX12_sells_158 : decode cX12_sells 158 = .ok (.ixor, 1) := by decide +kernel
theorem dX12_sells_159 : decode cX12_sells 159 = .ok (.iand, 1) := by decide +kernel
theorem dX12_sells_160 : decode cX12_sells 160 = .ok (.putfield 301, 3) := by decide +kernel
theorem dX12_sells_163 : decode cX12_sells 163 = .ok (.aload_n 0, 1) := by decide +kernel
theorem dX12_sells_164 : decode cX12_sells 164 = .ok (.iload_n 2, 1) := by decide +kernel
theorem dX12_sells_165 : decode cX12_sells 165 = .ok (.invokevirtual 307, 3) := by decide +kernel
theorem dX12_sells_168 : decode cX12_sells 168 = .ok (.aload_n 0, 1) := by decide +kernel
theorem dX12_sells_169 : decode cX12_sells 169 = .ok (.getfield 13, 3) := by decide +kernel
theorem dX12_sells_172 : decode cX12_sells 172 = .ok (.sipush 247, 3) := by decide +kernel
theorem dX12_sells_175 : decode cX12_sells 175 = .ok (.bipush 30, 2) := by decide +kernel
theorem dX12_sells_177 : decode cX12_sells 177 = .ok (.iload 5, 2) := by decide +kernel
theorem dX12_sells_179 : decode cX12_sells 179 = .ok (.imul, 1) := by decide +kernel
theorem dX12_sells_180 : decode cX12_sells 180 = .ok (.iadd, 1) := by decide +kernel
theorem dX12_sells_181 : decode cX12_sells 181 = .ok (.iload 8, 2) := by decide +kernel
theorem dX12_sells_183 : decode cX12_sells 183 = .ok (.iadd, 1) := by decide +kernel
theorem dX12_sells_184 : decode cX12_sells 184 = .ok (.iaload, 1) := by decide +kernel
theorem dX12_sells_185 : decode cX12_sells 185 = .ok (.iadd, 1) := by decide +kernel
theorem dX12_sells_186 : decode cX12_sells 186 = .ok (.iload 4, 2) := by decide +kernel
theorem dX12_sells_188 : decode cX12_sells 188 = .ok (.if_icmp .ne 7, 3) := by decide +kernel
theorem dX12_sells_191 : decode cX12_sells 191 = .ok (.iconst 1, 1) := by decide +kernel
theorem dX12_sells_192 : decode cX12_sells 192 = .ok (.goto 4, 3) := by decide +kernel
theorem dX12_sells_195 : decode cX12_sells 195 = .ok (.iconst 0, 1) := by decide +kernel
theorem dX12_sells_196 : decode cX12_sells 196 = .ok (.istore 7, 2) := by decide +kernel
theorem dX12_sells_198 : decode cX12_sells 198 = .ok (.iload 7, 2) := by decide +kernel
theorem dX12_sells_200 : decode cX12_sells 200 = .ok (.ifCond .eq 12, 3) := by decide +kernel
theorem dX12_sells_203 : decode cX12_sells 203 = .ok (.aload_n 0, 1) := by decide +kernel
theorem dX12_sells_204 : decode cX12_sells 204 = .ok (.getfield 39, 3) := by decide +kernel
theorem dX12_sells_207 : decode cX12_sells 207 = .ok (.iload 5, 2) := by decide +kernel
theorem dX12_sells_209 : decode cX12_sells 209 = .ok (.iload 8, 2) := by decide +kernel
theorem dX12_sells_211 : decode cX12_sells 211 = .ok (.iastore, 1) := by decide +kernel
theorem dX12_sells_212 : decode cX12_sells 212 = .ok (.iinc 8 1, 3) := by decide +kernel
theorem dX12_sells_215 : decode cX12_sells 215 = .ok (.goto (-92), 3) := by decide +kernel
theorem dX12_sells_218 : decode cX12_sells 218 = .ok (.aload_n 0, 1) := by decide +kernel
theorem dX12_sells_219 : decode cX12_sells 219 = .ok (.getfield 39, 3) := by decide +kernel
theorem dX12_sells_222 : decode cX12_sells 222 = .ok (.iload 5, 2) := by decide +kernel
theorem dX12_sells_224 : decode cX12_sells 224 = .ok (.iaload, 1) := by decide +kernel
theorem dX12_sells_225 : decode cX12_sells 225 = .ok (.ifCond .ge 12, 3) := by decide +kernel
theorem dX12_sells_228 : decode cX12_sells 228 = .ok (.aload_n 0, 1) := by decide +kernel
theorem dX12_sells_229 : decode cX12_sells 229 = .ok (.iload 6, 2) := by decide +kernel
theorem dX12_sells_231 : decode cX12_sells 231 = .ok (.putfield 301, 3) := by decide +kernel
theorem dX12_sells_234 : decode cX12_sells 234 = .ok (.goto 30, 3) := by decide +kernel
theorem dX12_sells_237 : decode cX12_sells 237 = .ok (.iload 4, 2) := by decide +kernel
theorem dX12_sells_239 : decode cX12_sells 239 = .ok (.aload_n 0, 1) := by decide +kernel
theorem dX12_sells_240 : decode cX12_sells 240 = .ok (.getfield 13, 3) := by decide +kernel
theorem dX12_sells_243 : decode cX12_sells 243 = .ok (.sipush 247, 3) := by decide +kernel
theorem dX12_sells_246 : decode cX12_sells 246 = .ok (.bipush 30, 2) := by decide +kernel
theorem dX12_sells_248 : decode cX12_sells 248 = .ok (.iload 5, 2) := by decide +kernel
theorem dX12_sells_250 : decode cX12_sells 250 = .ok (.imul, 1) := by decide +kernel
theorem dX12_sells_251 : decode cX12_sells 251 = .ok (.iadd, 1) := by decide +kernel
theorem dX12_sells_252 : decode cX12_sells 252 = .ok (.aload_n 0, 1) := by decide +kernel
theorem dX12_sells_253 : decode cX12_sells 253 = .ok (.getfield 39, 3) := by decide +kernel
theorem dX12_sells_256 : decode cX12_sells 256 = .ok (.iload 5, 2) := by decide +kernel
theorem dX12_sells_258 : decode cX12_sells 258 = .ok (.iaload, 1) := by decide +kernel
theorem dX12_sells_259 : decode cX12_sells 259 = .ok (.iadd, 1) := by decide +kernel
theorem dX12_sells_260 : decode cX12_sells 260 = .ok (.iaload, 1) := by decide +kernel
theorem dX12_sells_261 : decode cX12_sells 261 = .ok (.isub, 1) := by decide +kernel
theorem dX12_sells_262 : decode cX12_sells 262 = .ok (.istore 4, 2) := by decide +kernel
theorem dX12_sells_264 : decode cX12_sells 264 = .ok (.iinc 5 1, 3) := by decide +kernel
theorem dX12_sells_267 : decode cX12_sells 267 = .ok (.goto (-198), 3) := by decide +kernel
theorem dX12_sells_270 : decode cX12_sells 270 = .ok (.iload_n 3, 1) := by decide +kernel
theorem dX12_sells_271 : decode cX12_sells 271 = .ok (.ireturn, 1) := by decide +kernel
set_option maxRecDepth 20000 in
theorem kb_220_0 : ∀ q ∈ tb_220_0, s_atx 220 yX12_sells cX12_sells q.1 q.2 := (List.forall_mem_cons.mpr ⟨⟨s_ldAn dX12_sells_0 rfl, s_mo_ldA _ _⟩, (List.forall_mem_cons.mpr ⟨⟨s_iconst dX12_sells_1 (by decide +kernel), s_mo_push _ _⟩, (List.forall_mem_cons.mpr ⟨⟨s_putI (ci := 8) (k := 19) rfl (by decide) inX12 tyX12_ok nmX12 rfl rfl w_1240 dX12_sells_2, s_mo_putI _ _ _⟩, (List.forall_mem_cons.mpr ⟨⟨s_iconst dX12_sells_5 (by decide +kernel), s_mo_push _ _⟩, (List.forall_mem_cons.mpr ⟨⟨s_stIn dX12_sells_6 rfl, s_mo_stI _ _⟩, (List.forall_mem_cons.mpr ⟨⟨s_ldIn dX12_sells_7 rfl, s_mo_ldI _ _⟩, (List.forall_mem_cons.mpr ⟨⟨s_ldAn dX12_sells_8 rfl, s_mo_ldA _ _⟩, (List.forall_mem_cons.mpr ⟨⟨s_sV mk_220 mk_156 ok_156 (by decide +kernel) dX12_sells_9 w_1454 w_1456 wp_49 (Or.inr ⟨8, _, _, rfl, rfl⟩), s_h0 mk_220⟩, (List.forall_mem_cons.mpr ⟨⟨s_icge dX12_sells_12 (by decide), s_mo_icge _ _⟩, (List.forall_mem_cons.mpr ⟨⟨s_ldAn dX12_sells_15 rfl, s_mo_ldA _ _⟩, (List.forall_mem_cons.mpr ⟨⟨s_dup dX12_sells_16, s_mo_dup _⟩, (List.forall_mem_cons.mpr ⟨⟨s_getf (ci := 8) (k := 19) rfl (by decide) inX12 w_1240 dX12_sells_17, s_mo_getf _ _ _⟩, (List.forall_mem_cons.mpr ⟨⟨s_ldAn dX12_sells_20 rfl, s_mo_ldA _ _⟩, (List.forall_mem_cons.mpr ⟨⟨s_ldIn dX12_sells_21 rfl, s_mo_ldI _ _⟩, (List.forall_mem_cons.mpr ⟨⟨s_ldIn dX12_sells_22 rfl, s_mo_ldI _ _⟩, (List.forall_mem_cons.mpr ⟨⟨s_sV mk_220 mk_213 ok_213 (by decide +kernel) dX12_sells_23 w_1549 w_1551 wp_59 (Or.inr ⟨8, _, _, rfl, rfl⟩), s_h0 mk_220⟩, (List.forall_mem_cons.mpr ⟨⟨s_ifeq dX12_sells_26 (by decide), s_mo_ifeq _ _⟩, (List.forall_mem_cons.mpr ⟨⟨s_iconst dX12_sells_29 (by decide +kernel), s_mo_push _ _⟩, (List.forall_mem_cons.mpr ⟨⟨s_ldIn dX12_sells_30 rfl, s_mo_ldI _ _⟩, (List.forall_mem_cons.mpr ⟨⟨s_ishl dX12_sells_31, s_mo_bin _ _⟩, (List.forall_mem_cons.mpr ⟨⟨s_goto dX12_sells_32 (by decide), s_mo_goto _⟩, (List.forall_mem_cons.mpr ⟨⟨s_iconst dX12_sells_35 (by decide +kernel), s_mo_push _ _⟩, (List.forall_mem_cons.mpr ⟨⟨s_ior dX12_sells_36, s_mo_bin _ _⟩, (List.forall_mem_cons.mpr ⟨⟨s_putI (ci := 8) (k := 19) rfl (by decide) inX12 tyX12_ok nmX12 rfl rfl w_1240 dX12_sells_37, s_mo_putI _ _ _⟩, (List.forall_mem_cons.mpr ⟨⟨s_inc dX12_sells_40 (by decide +kernel), s_mo_inc _ _ _⟩, (List.forall_mem_cons.mpr ⟨⟨s_goto dX12_sells_43 (by decide), s_mo_goto _⟩, (List.forall_mem_cons.mpr ⟨⟨s_iconst dX12_sells_46 (by decide +kernel), s_mo_push _ _⟩, (List.forall_mem_cons.mpr ⟨⟨s_ldAn dX12_sells_47 rfl, s_mo_ldA _ _⟩, (List.forall_mem_cons.mpr ⟨⟨s_getf (ci := 8) (k := 1) rfl (by decide) inX12 w_1222 dX12_sells_48, s_mo_getf _ _ _⟩, (List.forall_mem_cons.mpr ⟨⟨s_iconst dX12_sells_51 (by decide +kernel), s_mo_push _ _⟩, (List.forall_mem_cons.mpr ⟨⟨s_iald dX12_sells_52, s_mo_iald _⟩, (List.forall_mem_cons.mpr ⟨⟨s_ishl dX12_sells_53, s_mo_bin _ _⟩, (List.forall_mem_cons.mpr ⟨⟨s_iconst dX12_sells_54 (by decide +kernel), s_mo_push _ _⟩, (List.forall_mem_cons.mpr ⟨⟨s_isub dX12_sells_55, s_mo_bin _ _⟩, (List.forall_mem_cons.mpr ⟨⟨s_stIn dX12_sells_56 rfl, s_mo_stI _ _⟩, (List.forall_mem_cons.mpr ⟨⟨s_ldAn dX12_sells_57 rfl, s_mo_ldA _ _⟩, (List.forall_mem_cons.mpr ⟨⟨s_ldIn dX12_sells_58 rfl, s_mo_ldI _ _⟩, (List.forall_mem_cons.mpr ⟨⟨s_sV mk_220 mk_219 ok_219 (by decide +kernel) dX12_sells_59 w_1589 w_1591 wp_65 (Or.inr ⟨8, _, _, rfl, rfl⟩), s_h0 mk_220⟩, (List.forall_mem_cons.mpr ⟨⟨s_stIn dX12_sells_62 rfl, s_mo_stI _ _⟩, (List.forall_mem_cons.mpr ⟨⟨s_ldIn dX12_sells_63 rfl, s_mo_ldI _ _⟩, (fun _ h => absurd h List.not_mem_nil)⟩)⟩)⟩)⟩)⟩)⟩)⟩)⟩)⟩)⟩)⟩)⟩)⟩)⟩)⟩)⟩)⟩)⟩)⟩)⟩)⟩)⟩)⟩)⟩)⟩)⟩)⟩)⟩)⟩)⟩)⟩)⟩)⟩)⟩)⟩)⟩)⟩)⟩)⟩)⟩)
set_option maxRecDepth 20000 in
theorem kb_220_1 : ∀ q ∈ tb_220_1, s_atx 220 yX12_sells cX12_sells q.1 q.2 := (List.forall_mem_cons.mpr ⟨⟨s_stI dX12_sells_64, s_mo_stI _ _⟩, (List.forall_mem_cons.mpr ⟨⟨s_iconst dX12_sells_66 (by decide +kernel), s_mo_push _ _⟩, (List.forall_mem_cons.mpr ⟨⟨s_stI dX12_sells_67, s_mo_stI _ _⟩, (List.forall_mem_cons.mpr ⟨⟨s_ldI dX12_sells_69, s_mo_ldI _ _⟩, (List.forall_mem_cons.mpr ⟨⟨s_ldAn dX12_sells_71 rfl, s_mo_ldA _ _⟩, (List.forall_mem_cons.mpr ⟨⟨s_getf (ci := 8) (k := 1) rfl (by decide) inX12 w_1222 dX12_sells_72, s_mo_getf _ _ _⟩, (List.forall_mem_cons.mpr ⟨⟨s_iconst dX12_sells_75 (by decide +kernel), s_mo_push _ _⟩, (List.forall_mem_cons.mpr ⟨⟨s_iald dX12_sells_76, s_mo_iald _⟩, (List.forall_mem_cons.mpr ⟨⟨s_icge dX12_sells_77 (by decide), s_mo_icge _ _⟩, (List.forall_mem_cons.mpr ⟨⟨s_ldIn dX12_sells_80 rfl, s_mo_ldI _ _⟩, (List.forall_mem_cons.mpr ⟨⟨s_iconst dX12_sells_81 (by decide +kernel), s_mo_push _ _⟩, (List.forall_mem_cons.mpr ⟨⟨s_ldI dX12_sells_82, s_mo_ldI _ _⟩, (List.forall_mem_cons.mpr ⟨⟨s_ishl dX12_sells_84, s_mo_bin _ _⟩, (List.forall_mem_cons.mpr ⟨⟨s_iconst dX12_sells_85 (by decide +kernel), s_mo_push _ _⟩, (List.forall_mem_cons.mpr ⟨⟨s_ixor dX12_sells_86, s_mo_bin _ _⟩, (List.forall_mem_cons.mpr ⟨⟨s_iand dX12_sells_87, s_mo_bin _ _⟩, (List.forall_mem_cons.mpr ⟨⟨s_stIn dX12_sells_88 rfl, s_mo_stI _ _⟩, (List.forall_mem_cons.mpr ⟨⟨s_ldAn dX12_sells_89 rfl, s_mo_ldA _ _⟩, (List.forall_mem_cons.mpr ⟨⟨s_getf (ci := 8) (k := 17) rfl (by decide) inX12 w_1238 dX12_sells_90, s_mo_getf _ _ _⟩, (List.forall_mem_cons.mpr ⟨⟨s_ldI dX12_sells_93, s_mo_ldI _ _⟩, (List.forall_mem_cons.mpr ⟨⟨s_iconst dX12_sells_95 (by decide +kernel), s_mo_push _ _⟩, (List.forall_mem_cons.mpr ⟨⟨s_iast dX12_sells_96, s_mo_iast _⟩, (List.forall_mem_cons.mpr ⟨⟨s_ldAn dX12_sells_97 rfl, s_mo_ldA _ _⟩, (List.forall_mem_cons.mpr ⟨⟨s_getf (ci := 8) (k := 19) rfl (by decide) inX12 w_1240 dX12_sells_98, s_mo_getf _ _ _⟩, (List.forall_mem_cons.mpr ⟨⟨s_stI dX12_sells_101, s_mo_stI _ _⟩, (List.forall_mem_cons.mpr ⟨⟨s_ldAn dX12_sells_103 rfl, s_mo_ldA _ _⟩, (List.forall_mem_cons.mpr ⟨⟨s_ldIn dX12_sells_104 rfl, s_mo_ldI _ _⟩, (List.forall_mem_cons.mpr ⟨⟨s_sV mk_220 mk_219 ok_219 (by decide +kernel) dX12_sells_105 w_1589 w_1591 wp_65 (Or.inr ⟨8, _, _, rfl, rfl⟩), s_h0 mk_220⟩, (List.forall_mem_cons.mpr ⟨⟨s_ldI dX12_sells_108, s_mo_ldI _ _⟩, (List.forall_mem_cons.mpr ⟨⟨s_icne dX12_sells_110 (by decide), s_mo_icne _ _⟩, (List.forall_mem_cons.mpr ⟨⟨s_iconst dX12_sells_113 (by decide +kernel), s_mo_push _ _⟩, (List.forall_mem_cons.mpr ⟨⟨s_goto dX12_sells_114 (by decide), s_mo_goto _⟩, (List.forall_mem_cons.mpr ⟨⟨s_iconst dX12_sells_117 (by decide +kernel), s_mo_push _ _⟩, (List.forall_mem_cons.mpr ⟨⟨s_stI dX12_sells_118, s_mo_stI _ _⟩, (List.forall_mem_cons.mpr ⟨⟨s_iconst dX12_sells_120 (by decide +kernel), s_mo_push _ _⟩, (List.forall_mem_cons.mpr ⟨⟨s_stI dX12_sells_121, s_mo_stI _ _⟩, (List.forall_mem_cons.mpr ⟨⟨s_ldI dX12_sells_123, s_mo_ldI _ _⟩, (List.forall_mem_cons.mpr ⟨⟨s_ldAn dX12_sells_125 rfl, s_mo_ldA _ _⟩, (List.forall_mem_cons.mpr ⟨⟨s_sV mk_220 mk_156 ok_156 (by decide +kernel) dX12_sells_126 w_1454 w_1456 wp_49 (Or.inr ⟨8, _, _, rfl, rfl⟩), s_h0 mk_220⟩, (fun _ h => absurd h List.not_mem_nil)⟩)⟩)⟩)⟩)⟩)⟩)⟩)⟩)⟩)⟩)⟩)⟩)⟩)⟩)⟩)⟩)⟩)⟩)⟩)⟩)⟩)⟩)⟩)⟩)⟩)⟩)⟩)⟩)⟩)⟩)⟩)⟩)⟩)⟩)⟩)⟩)⟩)⟩)⟩)
set_option maxRecDepth 20000 in
theorem kb_220_2 : ∀ q ∈ tb_220_2, s_atx 220 yX12_sells cX12_sells q.1 q.2 := (List.forall_mem_cons.mpr ⟨⟨s_icge dX12_sells_129 (by decide), s_mo_icge _ _⟩, (List.forall_mem_cons.mpr ⟨⟨s_ldI dX12_sells_132, s_mo_ldI _ _⟩, (List.forall_mem_cons.mpr ⟨⟨s_ifne dX12_sells_134 (by decide), s_mo_ifne _ _⟩, (List.forall_mem_cons.mpr ⟨⟨s_ldI dX12_sells_137, s_mo_ldI _ _⟩, (List.forall_mem_cons.mpr ⟨⟨s_ldI dX12_sells_139, s_mo_ldI _ _⟩, (List.forall_mem_cons.mpr ⟨⟨s_sS mk_220 mk_164 ok_164 (by decide +kernel) dX12_sells_141 w_1593 w_1594, s_h0 mk_220⟩, (List.forall_mem_cons.mpr ⟨⟨s_ifne dX12_sells_144 (by decide), s_mo_ifne _ _⟩, (List.forall_mem_cons.mpr ⟨⟨s_goto dX12_sells_147 (by decide), s_mo_goto _⟩, (List.forall_mem_cons.mpr ⟨⟨s_ldAn dX12_sells_150 rfl, s_mo_ldA _ _⟩, (List.forall_mem_cons.mpr ⟨⟨s_ldI dX12_sells_151, s_mo_ldI _ _⟩, (List.forall_mem_cons.mpr ⟨⟨s_iconst dX12_sells_153 (by decide +kernel), s_mo_push _ _⟩, (List.forall_mem_cons.mpr ⟨⟨s_ldI dX12_sells_154, s_mo_ldI _ _⟩, (List.forall_mem_cons.mpr ⟨⟨s_ishl dX12_sells_156, s_mo_bin _ _⟩, (List.forall_mem_cons.mpr ⟨⟨s_iconst dX12_sells_157 (by decide +kernel), s_mo_push _ _⟩, (List.forall_mem_cons.mpr ⟨⟨s_ixor dX12_sells_158, s_mo_bin _ _⟩, (List.forall_mem_cons.mpr ⟨⟨s_iand dX12_sells_159, s_mo_bin _ _⟩, (List.forall_mem_cons.mpr ⟨⟨s_putI (ci := 8) (k := 19) rfl (by decide) inX12 tyX12_ok nmX12 rfl rfl w_1240 dX12_sells_160, s_mo_putI _ _ _⟩, (List.forall_mem_cons.mpr ⟨⟨s_ldAn dX12_sells_163 rfl, s_mo_ldA _ _⟩, (List.forall_mem_cons.mpr ⟨⟨s_ldIn dX12_sells_164 rfl, s_mo_ldI _ _⟩, (List.forall_mem_cons.mpr ⟨⟨s_sV mk_220 mk_219 ok_219 (by decide +kernel) dX12_sells_165 w_1589 w_1591 wp_65 (Or.inr ⟨8, _, _, rfl, rfl⟩), s_h0 mk_220⟩, (List.forall_mem_cons.mpr ⟨⟨s_ldAn dX12_sells_168 rfl, s_mo_ldA _ _⟩, (List.forall_mem_cons.mpr ⟨⟨s_getf (ci := 8) (k := 1) rfl (by decide) inX12 w_1222 dX12_sells_169, s_mo_getf _ _ _⟩, (List.forall_mem_cons.mpr ⟨⟨s_sipush dX12_sells_172 (by decide +kernel), s_mo_push _ _⟩, (List.forall_mem_cons.mpr ⟨⟨s_bipush dX12_sells_175 (by decide +kernel), s_mo_push _ _⟩, (List.forall_mem_cons.mpr ⟨⟨s_ldI dX12_sells_177, s_mo_ldI _ _⟩, (List.forall_mem_cons.mpr ⟨⟨s_imul dX12_sells_179, s_mo_bin _ _⟩, (List.forall_mem_cons.mpr ⟨⟨s_iadd dX12_sells_180, s_mo_bin _ _⟩, (List.forall_mem_cons.mpr ⟨⟨s_ldI dX12_sells_181, s_mo_ldI _ _⟩, (List.forall_mem_cons.mpr ⟨⟨s_iadd dX12_sells_183, s_mo_bin _ _⟩, (List.forall_mem_cons.mpr ⟨⟨s_iald dX12_sells_184, s_mo_iald _⟩, (List.forall_mem_cons.mpr ⟨⟨s_iadd dX12_sells_185, s_mo_bin _ _⟩, (List.forall_mem_cons.mpr ⟨⟨s_ldI dX12_sells_186, s_mo_ldI _ _⟩, (List.forall_mem_cons.mpr ⟨⟨s_icne dX12_sells_188 (by decide), s_mo_icne _ _⟩, (List.forall_mem_cons.mpr ⟨⟨s_iconst dX12_sells_191 (by decide +kernel), s_mo_push _ _⟩, (fun _ h => absurd h List.not_mem_nil)⟩)⟩)⟩)⟩)⟩)⟩)⟩)⟩)⟩)⟩)⟩)⟩)⟩)⟩)⟩)⟩)⟩)⟩)⟩)⟩)⟩)⟩)⟩)⟩)⟩)⟩)⟩)⟩)⟩)⟩)⟩)⟩)⟩)⟩)
set_option maxRecDepth 20000 in
theorem kb_220_3 : ∀ q ∈ tb_220_3, s_atx 220 yX12_sells cX12_sells q.1 q.2 := (List.forall_mem_cons.mpr ⟨⟨s_goto dX12_sells_192 (by decide), s_mo_goto _⟩, (List.forall_mem_cons.mpr ⟨⟨s_iconst dX12_sells_195 (by decide +kernel), s_mo_push _ _⟩, (List.forall_mem_cons.mpr ⟨⟨s_stI dX12_sells_196, s_mo_stI _ _⟩, (List.forall_mem_cons.mpr ⟨⟨s_ldI dX12_sells_198, s_mo_ldI _ _⟩, (List.forall_mem_cons.mpr ⟨⟨s_ifeq dX12_sells_200 (by decide), s_mo_ifeq _ _⟩, (List.forall_mem_cons.mpr ⟨⟨s_ldAn dX12_sells_203 rfl, s_mo_ldA _ _⟩, (List.forall_mem_cons.mpr ⟨⟨s_getf (ci := 8) (k := 17) rfl (by decide) inX12 w_1238 dX12_sells_204, s_mo_getf _ _ _⟩, (List.forall_mem_cons.mpr ⟨⟨s_ldI dX12_sells_207, s_mo_ldI _ _⟩, (List.forall_mem_cons.mpr ⟨⟨s_ldI dX12_sells_209, s_mo_ldI _ _⟩, (List.forall_mem_cons.mpr ⟨⟨s_iast dX12_sells_211, s_mo_iast _⟩, (List.forall_mem_cons.mpr ⟨⟨s_inc dX12_sells_212 (by decide +kernel), s_mo_inc _ _ _⟩, (List.forall_mem_cons.mpr ⟨⟨s_goto dX12_sells_215 (by decide), s_mo_goto _⟩, (List.forall_mem_cons.mpr ⟨⟨s_ldAn dX12_sells_218 rfl, s_mo_ldA _ _⟩, (List.forall_mem_cons.mpr ⟨⟨s_getf (ci := 8) (k := 17) rfl (by decide) inX12 w_1238 dX12_sells_219, s_mo_getf _ _ _⟩, (List.forall_mem_cons.mpr ⟨⟨s_ldI dX12_sells_222, s_mo_ldI _ _⟩, (List.forall_mem_cons.mpr ⟨⟨s_iald dX12_sells_224, s_mo_iald _⟩, (List.forall_mem_cons.mpr ⟨⟨s_ifge dX12_sells_225 (by decide), s_mo_ifge _ _⟩, (List.forall_mem_cons.mpr ⟨⟨s_ldAn dX12_sells_228 rfl, s_mo_ldA _ _⟩, (List.forall_mem_cons.mpr ⟨⟨s_ldI dX12_sells_229, s_mo_ldI _ _⟩, (List.forall_mem_cons.mpr ⟨⟨s_putI (ci := 8) (k := 19) rfl (by decide) inX12 tyX12_ok nmX12 rfl rfl w_1240 dX12_sells_231, s_mo_putI _ _ _⟩, (List.forall_mem_cons.mpr ⟨⟨s_goto dX12_sells_234 (by decide), s_mo_goto _⟩, (List.forall_mem_cons.mpr ⟨⟨s_ldI dX12_sells_237, s_mo_ldI _ _⟩, (List.forall_mem_cons.mpr ⟨⟨s_ldAn dX12_sells_239 rfl, s_mo_ldA _ _⟩, (List.forall_mem_cons.mpr ⟨⟨s_getf (ci := 8) (k := 1) rfl (by decide) inX12 w_1222 dX12_sells_240, s_mo_getf _ _ _⟩, (List.forall_mem_cons.mpr ⟨⟨s_sipush dX12_sells_243 (by decide +kernel), s_mo_push _ _⟩, (List.forall_mem_cons.mpr ⟨⟨s_bipush dX12_sells_246 (by decide +kernel), s_mo_push _ _⟩, (List.forall_mem_cons.mpr ⟨⟨s_ldI dX12_sells_248, s_mo_ldI _ _⟩, (List.forall_mem_cons.mpr ⟨⟨s_imul dX12_sells_250, s_mo_bin _ _⟩, (List.forall_mem_cons.mpr ⟨⟨s_iadd dX12_sells_251, s_mo_bin _ _⟩, (List.forall_mem_cons.mpr ⟨⟨s_ldAn dX12_sells_252 rfl, s_mo_ldA _ _⟩, (List.forall_mem_cons.mpr ⟨⟨s_getf (ci := 8) (k := 17) rfl (by decide) inX12 w_1238 dX12_sells_253, s_mo_getf _ _ _⟩, (fun _ h => absurd h List.not_mem_nil)⟩)⟩)⟩)⟩)⟩)⟩)⟩)⟩)⟩)⟩)⟩)⟩)⟩)⟩)⟩)⟩)⟩)⟩)⟩)⟩)⟩)⟩)⟩)⟩)⟩)⟩)⟩)⟩)⟩)⟩)⟩)
set_option maxRecDepth 20000 in
theorem kb_220_4 : ∀ q ∈ tb_220_4, s_atx 220 yX12_sells cX12_sells q.1 q.2 := (List.forall_mem_cons.mpr ⟨⟨s_ldI dX12_sells_256, s_mo_ldI _ _⟩, (List.forall_mem_cons.mpr ⟨⟨s_iald dX12_sells_258, s_mo_iald _⟩, (List.forall_mem_cons.mpr ⟨⟨s_iadd dX12_sells_259, s_mo_bin _ _⟩, (List.forall_mem_cons.mpr ⟨⟨s_iald dX12_sells_260, s_mo_iald _⟩, (List.forall_mem_cons.mpr ⟨⟨s_isub dX12_sells_261, s_mo_bin _ _⟩, (List.forall_mem_cons.mpr ⟨⟨s_stI dX12_sells_262, s_mo_stI _ _⟩, (List.forall_mem_cons.mpr ⟨⟨s_inc dX12_sells_264 (by decide +kernel), s_mo_inc _ _ _⟩, (List.forall_mem_cons.mpr ⟨⟨s_goto dX12_sells_267 (by decide), s_mo_goto _⟩, (List.forall_mem_cons.mpr ⟨⟨s_ldIn dX12_sells_270 rfl, s_mo_ldI _ _⟩, (List.forall_mem_cons.mpr ⟨s_r1 mk_220 dX12_sells_271, (fun _ h => absurd h List.not_mem_nil)⟩)⟩)⟩)⟩)⟩)⟩)⟩)⟩)⟩)⟩)
theorem km_220 : ∀ t ∈ tm_220, s_tok 220 t := (List.forall_mem_cons.mpr ⟨s_lift mk_220 kb_220_0, (List.forall_mem_cons.mpr ⟨s_lift mk_220 kb_220_1, (List.forall_mem_cons.mpr ⟨s_lift mk_220 kb_220_2, (List.forall_mem_cons.mpr ⟨s_lift mk_220 kb_220_3, (List.forall_mem_cons.mpr ⟨s_lift mk_220 kb_220_4, (fun _ h => absurd h List.not_mem_nil)⟩)⟩)⟩)⟩)⟩)
theorem dX12_sale_0 : decode cX12_sale 0 = .ok (.aload_n 0, 1) := by decide +kernel
theorem dX12_sale_1 : decode cX12_sale 1 = .ok (.iconst 0, 1) := by decide +kernel
theorem dX12_sale_2 : decode cX12_sale 2 = .ok (.putfield 3, 3) := by decide +kernel
theorem dX12_sale_5 : decode cX12_sale 5 = .ok (.aload_n 0, 1) := by decide +kernel
theorem dX12_sale_6 : decode cX12_sale 6 = .ok (.iload_n 1, 1) := by decide +kernel
theorem dX12_sale_7 : decode cX12_sale 7 = .ok (.invokestatic 270, 3) := by decide +kernel
theorem dX12_sale_10 : decode cX12_sale 10 = .ok (.ifCond .ne 16, 3) := by decide +kernel
theorem dX12_sale_13 : decode cX12_sale 13 = .ok (.iload_n 2, 1) := by decide +kernel
theorem dX12_sale_14 : decode cX12_sale 14 = .ok (.iconst (-1), 1) := by decide +kernel
theorem dX12_sale_15 : decode cX12_sale 15 = .ok (.if_icmp .eq 15, 3) := by decide +kernel
theorem dX12_sale_18 : decode cX12_sale 18 = .ok (.aload_n 0, 1) := by decide +kernel
theorem dX12_sale_19 : decode cX12_sale 19 = .ok (.iload_n 2, 1) := by decide +kernel
theorem dX12_sale_20 : decode cX12_sale 20 = .ok (.invokevirtual 298, 3) := by decide +kernel
theorem dX12_sale_23 : decode cX12_sale 23 = .ok (.ifCond .eq 7, 3) := by decide +kernel
theorem dX12_sale_26 : decode cX12_sale 26 = .ok (.iconst 1, 1) := by decide +kernel
theorem dX12_sale_27 : decode cX12_sale 27 = .ok (.goto 4, 3) := by decide +kernel
theorem dX12_sale_30 : decode cX12_sale 30 = .ok (.iconst 0, 1) := by decide +kernel
theorem dX12_sale_31 : decode cX12_sale 31 = .ok (.iconst 1, 1) := by decide +kernel
theorem dX12_sale_32 : decode cX12_sale 32 = .ok (.invokevirtual 234, 3) := by decide +kernel
theorem dX12_sale_35 : decode cX12_sale 35 = .ok (.ifCond .eq 5, 3) := by decide +kernel
theorem dX12_sale_38 : decode cX12_sale 38 = .ok (.iconst 0, 1) := by decide +kernel
theorem dX12_sale_39 : decode cX12_sale 39 = .ok (.ireturn, 1) := by decide +kernel
theorem dX12_sale_40 : decode cX12_sale 40 = .ok (.aload_n 0, 1) := by decide +kernel
theorem dX12_sale_41 : decode cX12_sale 41 = .ok (.iload_n 1, 1) := by decide +kernel
theorem dX12_sale_42 : decode cX12_sale 42 = .ok (.invokevirtual 310, 3) := by decide +kernel
theorem dX12_sale_45 : decode cX12_sale 45 = .ok (.istore_n 3, 1) := by decide +kernel
theorem dX12_sale_46 : decode cX12_sale 46 = .ok (.iload_n 2, 1) := by decide +kernel
theorem dX12_sale_47 : decode cX12_sale 47 = .ok (.iconst (-1), 1) := by decide +kernel
theorem dX12_sale_48 : decode cX12_sale 48 = .ok (.if_icmp .ne 7, 3) := by decide +kernel
theorem dX12_sale_51 : decode cX12_sale 51 = .ok (.iload_n 3, 1) := by decide +kernel
theorem dX12_sale_52 : decode cX12_sale 52 = .ok (.goto 9, 3) := by decide +kernel
theorem dX12_sale_55 : decode cX12_sale 55 = .ok (.aload_n 0, 1) := by decide +kernel
theorem dX12_sale_56 : decode cX12_sale 56 = .ok (.getfield 39, 3) := by decide +kernel
theorem dX12_sale_59 : decode cX12_sale 59 = .ok (.iload_n 2, 1) := by decide +kernel
theorem dX12_sale_60 : decode cX12_sale 60 = .ok (.iaload, 1) := by decide +kernel
theorem dX12_sale_61 : decode cX12_sale 61 = .ok (.ireturn, 1) := by decide +kernel
set_option maxRecDepth 20000 in
theorem kb_221_0 : ∀ q ∈ tb_221_0, s_atx 221 yX12_sale cX12_sale q.1 q.2 := (List.forall_mem_cons.mpr ⟨⟨s_ldAn dX12_sale_0 rfl, s_mo_ldA _ _⟩, (List.forall_mem_cons.mpr ⟨⟨s_iconst dX12_sale_1 (by decide +kernel), s_mo_push _ _⟩, (List.forall_mem_cons.mpr ⟨⟨s_putI (ci := 8) (k := 0) rfl (by decide) inX12 tyX12_ok nmX12 rfl rfl w_1221 dX12_sale_2, s_mo_putI _ _ _⟩, (List.forall_mem_cons.mpr ⟨⟨s_ldAn dX12_sale_5 rfl, s_mo_ldA _ _⟩, (List.forall_mem_cons.mpr ⟨⟨s_ldIn dX12_sale_6 rfl, s_mo_ldI _ _⟩, (List.forall_mem_cons.mpr ⟨⟨s_sS mk_221 mk_161 ok_161 (by decide +kernel) dX12_sale_7 w_1503 w_1504, s_h0 mk_221⟩, (List.forall_mem_cons.mpr ⟨⟨s_ifne dX12_sale_10 (by decide), s_mo_ifne _ _⟩, (List.forall_mem_cons.mpr ⟨⟨s_ldIn dX12_sale_13 rfl, s_mo_ldI _ _⟩, (List.forall_mem_cons.mpr ⟨⟨s_iconst dX12_sale_14 (by decide +kernel), s_mo_push _ _⟩, (List.forall_mem_cons.mpr ⟨⟨s_iceq dX12_sale_15 (by decide), s_mo_iceq _ _⟩, (List.forall_mem_cons.mpr ⟨⟨s_ldAn dX12_sale_18 rfl, s_mo_ldA _ _⟩, (List.forall_mem_cons.mpr ⟨⟨s_ldIn dX12_sale_19 rfl, s_mo_ldI _ _⟩, (List.forall_mem_cons.mpr ⟨⟨s_sV mk_221 mk_217 ok_217 (by decide +kernel) dX12_sale_20 w_1577 w_1579 wp_63 (Or.inr ⟨8, _, _, rfl, rfl⟩), s_h0 mk_221⟩, (List.forall_mem_cons.mpr ⟨⟨s_ifeq dX12_sale_23 (by decide), s_mo_ifeq _ _⟩, (List.forall_mem_cons.mpr ⟨⟨s_iconst dX12_sale_26 (by decide +kernel), s_mo_push _ _⟩, (List.forall_mem_cons.mpr ⟨⟨s_goto dX12_sale_27 (by decide), s_mo_goto _⟩, (List.forall_mem_cons.mpr ⟨⟨s_iconst dX12_sale_30 (by decide +kernel), s_mo_push _ _⟩, (List.forall_mem_cons.mpr ⟨⟨s_iconst dX12_sale_31 (by decide +kernel), s_mo_push _ _⟩, (List.forall_mem_cons.mpr ⟨⟨s_sV mk_221 mk_149 ok_149 (by decide +kernel) dX12_sale_32 w_1438 w_1440 wp_47 (Or.inr ⟨8, _, _, rfl, rfl⟩), s_h0 mk_221⟩, (List.forall_mem_cons.mpr ⟨⟨s_ifeq dX12_sale_35 (by decide), s_mo_ifeq _ _⟩, (List.forall_mem_cons.mpr ⟨⟨s_iconst dX12_sale_38 (by decide +kernel), s_mo_push _ _⟩, (List.forall_mem_cons.mpr ⟨s_r1 mk_221 dX12_sale_39, (List.forall_mem_cons.mpr ⟨⟨s_ldAn dX12_sale_40 rfl, s_mo_ldA _ _⟩, (List.forall_mem_cons.mpr ⟨⟨s_ldIn dX12_sale_41 rfl, s_mo_ldI _ _⟩, (List.forall_mem_cons.mpr ⟨⟨s_sV mk_221 mk_220 ok_220 (by decide +kernel) dX12_sale_42 w_1585 w_1587 wp_64 (Or.inr ⟨8, _, _, rfl, rfl⟩), s_h0 mk_221⟩, (List.forall_mem_cons.mpr ⟨⟨s_stIn dX12_sale_45 rfl, s_mo_stI _ _⟩, (List.forall_mem_cons.mpr ⟨⟨s_ldIn dX12_sale_46 rfl, s_mo_ldI _ _⟩, (List.forall_mem_cons.mpr ⟨⟨s_iconst dX12_sale_47 (by decide +kernel), s_mo_push _ _⟩, (List.forall_mem_cons.mpr ⟨⟨s_icne dX12_sale_48 (by decide), s_mo_icne _ _⟩, (List.forall_mem_cons.mpr ⟨⟨s_ldIn dX12_sale_51 rfl, s_mo_ldI _ _⟩, (List.forall_mem_cons.mpr ⟨⟨s_goto dX12_sale_52 (by decide), s_mo_goto _⟩, (List.forall_mem_cons.mpr ⟨⟨s_ldAn dX12_sale_55 rfl, s_mo_ldA _ _⟩, (List.forall_mem_cons.mpr ⟨⟨s_getf (ci := 8) (k := 17) rfl (by decide) inX12 w_1238 dX12_sale_56, s_mo_getf _ _ _⟩, (List.forall_mem_cons.mpr ⟨⟨s_ldIn dX12_sale_59 rfl, s_mo_ldI _ _⟩, (List.forall_mem_cons.mpr ⟨⟨s_iald dX12_sale_60, s_mo_iald _⟩, (List.forall_mem_cons.mpr ⟨s_r1 mk_221 dX12_sale_61, (fun _ h => absurd h List.not_mem_nil)⟩)⟩)⟩)⟩)⟩)⟩)⟩)⟩)⟩)⟩)⟩)⟩)⟩)⟩)⟩)⟩)⟩)⟩)⟩)⟩)⟩)⟩)⟩)⟩)⟩)⟩)⟩)⟩)⟩)⟩)⟩)⟩)⟩)⟩)⟩)⟩)
theorem km_221 : ∀ t ∈ tm_221, s_tok 221 t := (List.forall_mem_cons.mpr ⟨s_lift mk_221 kb_221_0, (fun _ h => absurd h List.not_mem_nil)⟩)
theorem dX12_lost_0 : decode cX12_lost 0 = .ok (.aload_n 0, 1) := by decide +kernel
theorem dX12_lost_1 : decode cX12_lost 1 = .ok (.iconst 0, 1) := by decide +kernel
theorem dX12_lost_2 : decode cX12_lost 2 = .ok (.putfield 3, 3) := by decide +kernel
theorem dX12_lost_5 : decode cX12_lost 5 = .ok (.aload_n 0, 1) := by decide +kernel
theorem dX12_lost_6 : decode cX12_lost 6 = .ok (.iload_n 1, 1) := by decide +kernel
theorem dX12_lost_7 : decode cX12_lost 7 = .ok (.invokestatic 270, 3) := by decide +kernel
theorem dX12_lost_10 : decode cX12_lost 10 = .ok (.ifCond .ne 11, 3) := by decide +kernel
theorem dX12_lost_13 : decode cX12_lost 13 = .ok (.aload_n 0, 1) := by decide +kernel
theorem dX12_lost_14 : decode cX12_lost 14 = .ok (.iload_n 2, 1) := by decide +kernel
theorem dX12_lost_15 : decode cX12_lost 15 = .ok (.invokevirtual 298, 3) := by decide +kernel
theorem dX12_lost_18 : decode cX12_lost 18 = .ok (.ifCond .eq 7, 3) := by decide +kernel
theorem dX12_lost_21 : decode cX12_lost 21 = .ok (.iconst 1, 1) := by decide +kernel
theorem dX12_lost_22 : decode cX12_lost 22 = .ok (.goto 4, 3) := by decide +kernel
theorem dX12_lost_25 : decode cX12_lost 25 = .ok (.iconst 0, 1) := by decide +kernel
theorem dX12_lost_26 : decode cX12_lost 26 = .ok (.iconst 1, 1) := by decide +kernel
theorem dX12_lost_27 : decode cX12_lost 27 = .ok (.invokevirtual 234, 3) := by decide +kernel
theorem dX12_lost_30 : decode cX12_lost 30 = .ok (.ifCond .eq 5, 3) := by decide +kernel
theorem dX12_lost_33 : decode cX12_lost 33 = .ok (.iconst 0, 1) := by decide +kernel
theorem dX12_lost_34 : decode cX12_lost 34 = .ok (.ireturn, 1) := by decide +kernel
theorem dX12_lost_35 : decode cX12_lost 35 = .ok (.aload_n 0, 1) := by decide +kernel
theorem dX12_lost_36 : decode cX12_lost 36 = .ok (.iload_n 1, 1) := by decide +kernel
theorem dX12_lost_37 : decode cX12_lost 37 = .ok (.invokevirtual 310, 3) := by decide +kernel
theorem dX12_lost_40 : decode cX12_lost 40 = .ok (.istore_n 3, 1) := by decide +kernel
theorem dX12_lost_41 : decode cX12_lost 41 = .ok (.aload_n 0, 1) := by decide +kernel
theorem dX12_lost_42 : decode cX12_lost 42 = .ok (.getfield 39, 3) := by decide +kernel
theorem dX12_lost_45 : decode cX12_lost 45 = .ok (.iload_n 2, 1) := by decide +kernel
theorem dX12_lost_46 : decode cX12_lost 46 = .ok (.iaload, 1) := by decide +kernel
theorem dX12_lost_47 : decode cX12_lost 47 = .ok (.ifCond .ge 7, 3) := by decide +kernel
theorem dX12_lost_50 : decode cX12_lost 50 = .ok (.iconst 0, 1) := by decide +kernel
theorem dX12_lost_51 : decode cX12_lost 51 = .ok (.goto 23, 3) := by decide +kernel
theorem dX12_lost_54 : decode cX12_lost 54 = .ok (.aload_n 0, 1) := by decide +kernel
theorem dX12_lost_55 : decode cX12_lost 55 = .ok (.getfield 13, 3) := by decide +kernel
theorem dX12_lost_58 : decode cX12_lost 58 = .ok (.sipush 247, 3) := by decide +kernel
theorem dX12_lost_61 : decode cX12_lost 61 = .ok (.bipush 30, 2) := by decide +kernel
theorem dX12_lost_63 : decode cX12_lost 63 = .ok (.iload_n 2, 1) := by decide +kernel
theorem dX12_lost_64 : decode cX12_lost 64 = .ok (.imul, 1) := by decide +kernel
theorem dX12_lost_65 : decode cX12_lost 65 = .ok (.iadd, 1) := by decide +kernel
theorem dX12_lost_66 : decode cX12_lost 66 = .ok (.aload_n 0, 1) := by decide +kernel
theorem dX12_lost_67 : decode cX12_lost 67 = .ok (.getfield 39, 3) := by decide +kernel
theorem dX12_lost_70 : decode cX12_lost 70 = .ok (.iload_n 2, 1) := by decide +kernel
theorem dX12_lost_71 : decode cX12_lost 71 = .ok (.iaload, 1) := by decide +kernel
theorem dX12_lost_72 : decode cX12_lost 72 = .ok (.iadd, 1) := by decide +kernel
theorem dX12_lost_73 : decode cX12_lost 73 = .ok (.iaload, 1) := by decide +kernel
theorem dX12_lost_74 : decode cX12_lost 74 = .ok (.istore 4, 2) := by decide +kernel
theorem dX12_lost_76 : decode cX12_lost 76 = .ok (.aload_n 0, 1) := by decide +kernel
theorem dX12_lost_77 : decode cX12_lost 77 = .ok (.iconst 0, 1) := by decide +kernel
theorem dX12_lost_78 : decode cX12_lost 78 = .ok (.putfield 301, 3) := by decide +kernel
theorem dX12_lost_81 : decode cX12_lost 81 = .ok (.iconst 0, 1) := by decide +kernel
theorem dX12_lost_82 : decode cX12_lost 82 = .ok (.istore 5, 2) := by decide +kernel
theorem dX12_lost_84 : decode cX12_lost 84 = .ok (.iload 5, 2) := by decide +kernel
theorem dX12_lost_86 : decode cX12_lost 86 = .ok (.aload_n 0, 1) := by decide +kernel
theorem dX12_lost_87 : decode cX12_lost 87 = .ok (.invokevirtual 80, 3) := by decide +kernel
theorem dX12_lost_90 : decode cX12_lost 90 = .ok (.if_icmp .ge 36, 3) := by decide +kernel
theorem dX12_lost_93 : decode cX12_lost 93 = .ok (.aload_n 0, 1) := by decide +kernel
theorem dX12_lost_94 : decode cX12_lost 94 = .ok (.dup, 1) := by decide +kernel
theorem dX12_lost_95 : decode cX12_lost 95 = .ok (.getfield 301, 3) := by decide +kernel
theorem dX12_lost_98 : decode cX12_lost 98 = .ok (.aload_n 0, 1) := by decide +kernel
theorem dX12_lost_99 : decode cX12_lost 99 = .ok (.iload 5, 2) := by decide +kernel
theorem dX12_lost_101 : decode cX12_lost 101 = .ok (.iload_n 1, 1) := by decide +kernel
theorem dX12_lost_102 : decode cX12_lost 102 = .ok (.invokevirtual 295, 3) := by decide +kernel
theorem dX12_lost_105 : decode cX12_lost 105 = .ok (.ifCond .eq 10, 3) := by decide +kernel
theorem dX12_lost_108 : decode cX12_lost 108 = .ok (.iconst 1, 1) := by decide +kernel
theorem dX12_lost_109 : decode cX12_lost 109 = .ok (.iload 5, 2) := by decide +kernel
theorem dX12_lost_111 : decode cX12_lost 111 = .ok (.ishl, 1) := by decide +kernel
theorem dX12_lost_112 : decode cX12_lost 112 = .ok (.goto 4, 3) := by decide +kernel
theorem dX12_lost_115 : decode cX12_lost 115 = .ok (.iconst 0, 1) := by decide +kernel
theorem dX12_lost_116 : decode cX12_lost 116 = .ok (.ior, 1) := by decide +kernel
theorem dX12_lost_117 : decode cX12_lost 117 = .ok (.putfield 301, 3) := by decide +kernel
theorem dX12_lost_120 : decode cX12_lost 120 = .ok (.iinc 5 1, 3) := by decide +kernel
theorem dX12_lost_123 : decode cX12_lost 123 = .ok (.goto (-39), 3) := by decide +kernel
theorem dX12_lost_126 : decode cX12_lost 126 = .ok (.aload_n 0, 1) := by decide +kernel
theorem dX12_lost_127 : decode cX12_lost 127 = .ok (.iconst 1, 1) := by decide +kernel
theorem dX12_lost_128 : decode cX12_lost 128 = .ok (.aload_n 0, 1) := by decide +kernel
theorem dX12_lost_129 : decode cX12_lost 129 = .ok (.getfield 13, 3) := by decide +kernel
theorem dX12_lost_132 : decode cX12_lost 132 = .ok (.iconst 5, 1) := by decide +kernel
theorem dX12_lost_133 : decode cX12_lost 133 = .ok (.iaload, 1) := by decide +kernel
theorem dX12_lost_134 : decode cX12_lost 134 = .ok (.ishl, 1) := by decide +kernel
theorem dX12_lost_135 : decode cX12_lost 135 = .ok (.iconst 1, 1) := by decide +kernel
theorem dX12_lost_136 : decode cX12_lost 136 = .ok (.isub, 1) := by decide +kernel
theorem dX12_lost_137 : decode cX12_lost 137 = .ok (.iconst 1, 1) := by decide +kernel
theorem dX12_lost_138 : decode cX12_lost 138 = .ok (.iload_n 2, 1) := by decide +kernel
theorem dX12_lost_139 : decode cX12_lost 139 = .ok (.ishl, 1) := by decide +kernel
theorem dX12_lost_140 : decode cX12_lost 140 = .ok (.iconst (-1), 1) := by decide +kernel
theorem dX12_lost_141 : decode cX12_lost 141 = .ok (.ixor, 1) := by decide +kernel
theorem dX12_lost_142 : decode cX12_lost 142 = .ok (.iand, 1) := by decide +kernel
theorem dX12_lost_143 : decode cX12_lost 143 = .ok (.invokevirtual 307, 3) := by decide +kernel
theorem dX12_lost_146 : decode cX12_lost 146 = .ok (.iload_n 3, 1) := by decide +kernel
theorem dX12_lost_147 : decode cX12_lost 147 = .ok (.iload 4, 2) := by decide +kernel
theorem dX12_lost_149 : decode cX12_lost 149 = .ok (.isub, 1) := by decide +kernel
theorem dX12_lost_150 : decode cX12_lost 150 = .ok (.isub, 1) := by decide +kernel
theorem dX12_lost_151 : decode cX12_lost 151 = .ok (.ireturn, 1) := by decide +kernel
set_option maxRecDepth 20000 in
theorem kb_222_0 : ∀ q ∈ tb_222_0, s_atx 222 yX12_lost cX12_lost q.1 q.2 := (List.forall_mem_cons.mpr ⟨⟨s_ldAn dX12_lost_0 rfl, s_mo_ldA _ _⟩, (List.forall_mem_cons.mpr ⟨⟨s_iconst dX12_lost_1 (by decide +kernel), s_mo_push _ _⟩, (List.forall_mem_cons.mpr ⟨⟨s_putI (ci := 8) (k := 0) rfl (by decide) inX12 tyX12_ok nmX12 rfl rfl w_1221 dX12_lost_2, s_mo_putI _ _ _⟩, (List.forall_mem_cons.mpr ⟨⟨s_ldAn dX12_lost_5 rfl, s_mo_ldA _ _⟩, (List.forall_mem_cons.mpr ⟨⟨s_ldIn dX12_lost_6 rfl, s_mo_ldI _ _⟩, (List.forall_mem_cons.mpr ⟨⟨s_sS mk_222 mk_161 ok_161 (by decide +kernel) dX12_lost_7 w_1503 w_1504, s_h0 mk_222⟩, (List.forall_mem_cons.mpr ⟨⟨s_ifne dX12_lost_10 (by decide), s_mo_ifne _ _⟩, (List.forall_mem_cons.mpr ⟨⟨s_ldAn dX12_lost_13 rfl, s_mo_ldA _ _⟩, (List.forall_mem_cons.mpr ⟨⟨s_ldIn dX12_lost_14 rfl, s_mo_ldI _ _⟩, (List.forall_mem_cons.mpr ⟨⟨s_sV mk_222 mk_217 ok_217 (by decide +kernel) dX12_lost_15 w_1577 w_1579 wp_63 (Or.inr ⟨8, _, _, rfl, rfl⟩), s_h0 mk_222⟩, (List.forall_mem_cons.mpr ⟨⟨s_ifeq dX12_lost_18 (by decide), s_mo_ifeq _ _⟩, (List.forall_mem_cons.mpr ⟨⟨s_iconst dX12_lost_21 (by decide +kernel), s_mo_push _ _⟩, (List.forall_mem_cons.mpr ⟨⟨s_goto dX12_lost_22 (by decide), s_mo_goto _⟩, (List.forall_mem_cons.mpr ⟨⟨s_iconst dX12_lost_25 (by decide +kernel), s_mo_push _ _⟩, (List.forall_mem_cons.mpr ⟨⟨s_iconst dX12_lost_26 (by decide +kernel), s_mo_push _ _⟩, (List.forall_mem_cons.mpr ⟨⟨s_sV mk_222 mk_149 ok_149 (by decide +kernel) dX12_lost_27 w_1438 w_1440 wp_47 (Or.inr ⟨8, _, _, rfl, rfl⟩), s_h0 mk_222⟩, (List.forall_mem_cons.mpr ⟨⟨s_ifeq dX12_lost_30 (by decide), s_mo_ifeq _ _⟩, (List.forall_mem_cons.mpr ⟨⟨s_iconst dX12_lost_33 (by decide +kernel), s_mo_push _ _⟩, (List.forall_mem_cons.mpr ⟨s_r1 mk_222 dX12_lost_34, (List.forall_mem_cons.mpr ⟨⟨s_ldAn dX12_lost_35 rfl, s_mo_ldA _ _⟩, (List.forall_mem_cons.mpr ⟨⟨s_ldIn dX12_lost_36 rfl, s_mo_ldI _ _⟩, (List.forall_mem_cons.mpr ⟨⟨s_sV mk_222 mk_220 ok_220 (by decide +kernel) dX12_lost_37 w_1585 w_1587 wp_64 (Or.inr ⟨8, _, _, rfl, rfl⟩), s_h0 mk_222⟩, (List.forall_mem_cons.mpr ⟨⟨s_stIn dX12_lost_40 rfl, s_mo_stI _ _⟩, (List.forall_mem_cons.mpr ⟨⟨s_ldAn dX12_lost_41 rfl, s_mo_ldA _ _⟩, (List.forall_mem_cons.mpr ⟨⟨s_getf (ci := 8) (k := 17) rfl (by decide) inX12 w_1238 dX12_lost_42, s_mo_getf _ _ _⟩, (List.forall_mem_cons.mpr ⟨⟨s_ldIn dX12_lost_45 rfl, s_mo_ldI _ _⟩, (List.forall_mem_cons.mpr ⟨⟨s_iald dX12_lost_46, s_mo_iald _⟩, (List.forall_mem_cons.mpr ⟨⟨s_ifge dX12_lost_47 (by decide), s_mo_ifge _ _⟩, (List.forall_mem_cons.mpr ⟨⟨s_iconst dX12_lost_50 (by decide +kernel), s_mo_push _ _⟩, (List.forall_mem_cons.mpr ⟨⟨s_goto dX12_lost_51 (by decide), s_mo_goto _⟩, (List.forall_mem_cons.mpr ⟨⟨s_ldAn dX12_lost_54 rfl, s_mo_ldA _ _⟩, (List.forall_mem_cons.mpr ⟨⟨s_getf (ci := 8) (k := 1) rfl (by decide) inX12 w_1222 dX12_lost_55, s_mo_getf _ _ _⟩, (List.forall_mem_cons.mpr ⟨⟨s_sipush dX12_lost_58 (by decide +kernel), s_mo_push _ _⟩, (List.forall_mem_cons.mpr ⟨⟨s_bipush dX12_lost_61 (by decide +kernel), s_mo_push _ _⟩, (List.forall_mem_cons.mpr ⟨⟨s_ldIn dX12_lost_63 rfl, s_mo_ldI _ _⟩, (fun _ h => absurd h List.not_mem_nil)⟩)⟩)⟩)⟩)⟩)⟩)⟩)⟩)⟩)⟩)⟩)⟩)⟩)⟩)⟩)⟩)⟩)⟩)⟩)⟩)⟩)⟩)⟩)⟩)⟩)⟩)⟩)⟩)⟩)⟩)⟩)⟩)⟩)⟩)⟩)
set_option maxRecDepth 20000 in
theorem kb_222_1 : ∀ q ∈ tb_222_1, s_atx 222 yX12_lost cX12_lost q.1 q.2 := (List.forall_mem_cons.mpr ⟨⟨s_imul dX12_lost_64, s_mo_bin _ _⟩, (List.forall_mem_cons.mpr ⟨⟨s_iadd dX12_lost_65, s_mo_bin _ _⟩, (List.forall_mem_cons.mpr ⟨⟨s_ldAn dX12_lost_66 rfl, s_mo_ldA _ _⟩, (List.forall_mem_cons.mpr ⟨⟨s_getf (ci := 8) (k := 17) rfl (by decide) inX12 w_1238 dX12_lost_67, s_mo_getf _ _ _⟩, (List.forall_mem_cons.mpr ⟨⟨s_ldIn dX12_lost_70 rfl, s_mo_ldI _ _⟩, (List.forall_mem_cons.mpr ⟨⟨s_iald dX12_lost_71, s_mo_iald _⟩, (List.forall_mem_cons.mpr ⟨⟨s_iadd dX12_lost_72, s_mo_bin _ _⟩, (List.forall_mem_cons.mpr ⟨⟨s_iald dX12_lost_73, s_mo_iald _⟩, (List.forall_mem_cons.mpr ⟨⟨s_stI dX12_lost_74, s_mo_stI _ _⟩, (List.forall_mem_cons.mpr ⟨⟨s_ldAn dX12_lost_76 rfl, s_mo_ldA _ _⟩, (List.forall_mem_cons.mpr ⟨⟨s_iconst dX12_lost_77 (by decide +kernel), s_mo_push _ _⟩, (List.forall_mem_cons.mpr ⟨⟨s_putI (ci := 8) (k := 19) rfl (by decide) inX12 tyX12_ok nmX12 rfl rfl w_1240 dX12_lost_78, s_mo_putI _ _ _⟩, (List.forall_mem_cons.mpr ⟨⟨s_iconst dX12_lost_81 (by decide +kernel), s_mo_push _ _⟩, (List.forall_mem_cons.mpr ⟨⟨s_stI dX12_lost_82, s_mo_stI _ _⟩, (List.forall_mem_cons.mpr ⟨⟨s_ldI dX12_lost_84, s_mo_ldI _ _⟩, (List.forall_mem_cons.mpr ⟨⟨s_ldAn dX12_lost_86 rfl, s_mo_ldA _ _⟩, (List.forall_mem_cons.mpr ⟨⟨s_sV mk_222 mk_156 ok_156 (by decide +kernel) dX12_lost_87 w_1454 w_1456 wp_49 (Or.inr ⟨8, _, _, rfl, rfl⟩), s_h0 mk_222⟩, (List.forall_mem_cons.mpr ⟨⟨s_icge dX12_lost_90 (by decide), s_mo_icge _ _⟩, (List.forall_mem_cons.mpr ⟨⟨s_ldAn dX12_lost_93 rfl, s_mo_ldA _ _⟩, (List.forall_mem_cons.mpr ⟨⟨s_dup dX12_lost_94, s_mo_dup _⟩, (List.forall_mem_cons.mpr ⟨⟨s_getf (ci := 8) (k := 19) rfl (by decide) inX12 w_1240 dX12_lost_95, s_mo_getf _ _ _⟩, (List.forall_mem_cons.mpr ⟨⟨s_ldAn dX12_lost_98 rfl, s_mo_ldA _ _⟩, (List.forall_mem_cons.mpr ⟨⟨s_ldI dX12_lost_99, s_mo_ldI _ _⟩, (List.forall_mem_cons.mpr ⟨⟨s_ldIn dX12_lost_101 rfl, s_mo_ldI _ _⟩, (List.forall_mem_cons.mpr ⟨⟨s_sV mk_222 mk_213 ok_213 (by decide +kernel) dX12_lost_102 w_1549 w_1551 wp_59 (Or.inr ⟨8, _, _, rfl, rfl⟩), s_h0 mk_222⟩, (List.forall_mem_cons.mpr ⟨⟨s_ifeq dX12_lost_105 (by decide), s_mo_ifeq _ _⟩, (List.forall_mem_cons.mpr ⟨⟨s_iconst dX12_lost_108 (by decide +kernel), s_mo_push _ _⟩, (List.forall_mem_cons.mpr ⟨⟨s_ldI dX12_lost_109, s_mo_ldI _ _⟩, (List.forall_mem_cons.mpr ⟨⟨s_ishl dX12_lost_111, s_mo_bin _ _⟩, (List.forall_mem_cons.mpr ⟨⟨s_goto dX12_lost_112 (by decide), s_mo_goto _⟩, (List.forall_mem_cons.mpr ⟨⟨s_iconst dX12_lost_115 (by decide +kernel), s_mo_push _ _⟩, (List.forall_mem_cons.mpr ⟨⟨s_ior dX12_lost_116, s_mo_bin _ _⟩, (List.forall_mem_cons.mpr ⟨⟨s_putI (ci := 8) (k := 19) rfl (by decide) inX12 tyX12_ok nmX12 rfl rfl w_1240 dX12_lost_117, s_mo_putI _ _ _⟩, (List.forall_mem_cons.mpr ⟨⟨s_inc dX12_lost_120 (by decide +kernel), s_mo_inc _ _ _⟩, (List.forall_mem_cons.mpr ⟨⟨s_goto dX12_lost_123 (by decide), s_mo_goto _⟩, (List.forall_mem_cons.mpr ⟨⟨s_ldAn dX12_lost_126 rfl, s_mo_ldA _ _⟩, (List.forall_mem_cons.mpr ⟨⟨s_iconst dX12_lost_127 (by decide +kernel), s_mo_push _ _⟩, (fun _ h => absurd h List.not_mem_nil)⟩)⟩)⟩)⟩)⟩)⟩)⟩)⟩)⟩)⟩)⟩)⟩)⟩)⟩)⟩)⟩)⟩)⟩)⟩)⟩)⟩)⟩)⟩)⟩)⟩)⟩)⟩)⟩)⟩)⟩)⟩)⟩)⟩)⟩)⟩)⟩)⟩)
set_option maxRecDepth 20000 in
theorem kb_222_2 : ∀ q ∈ tb_222_2, s_atx 222 yX12_lost cX12_lost q.1 q.2 := (List.forall_mem_cons.mpr ⟨⟨s_ldAn dX12_lost_128 rfl, s_mo_ldA _ _⟩, (List.forall_mem_cons.mpr ⟨⟨s_getf (ci := 8) (k := 1) rfl (by decide) inX12 w_1222 dX12_lost_129, s_mo_getf _ _ _⟩, (List.forall_mem_cons.mpr ⟨⟨s_iconst dX12_lost_132 (by decide +kernel), s_mo_push _ _⟩, (List.forall_mem_cons.mpr ⟨⟨s_iald dX12_lost_133, s_mo_iald _⟩, (List.forall_mem_cons.mpr ⟨⟨s_ishl dX12_lost_134, s_mo_bin _ _⟩, (List.forall_mem_cons.mpr ⟨⟨s_iconst dX12_lost_135 (by decide +kernel), s_mo_push _ _⟩, (List.forall_mem_cons.mpr ⟨⟨s_isub dX12_lost_136, s_mo_bin _ _⟩, (List.forall_mem_cons.mpr ⟨⟨s_iconst dX12_lost_137 (by decide +kernel), s_mo_push _ _⟩, (List.forall_mem_cons.mpr ⟨⟨s_ldIn dX12_lost_138 rfl, s_mo_ldI _ _⟩, (List.forall_mem_cons.mpr ⟨⟨s_ishl dX12_lost_139, s_mo_bin _ _⟩, (List.forall_mem_cons.mpr ⟨⟨s_iconst dX12_lost_140 (by decide +kernel), s_mo_push _ _⟩, (List.forall_mem_cons.mpr ⟨⟨s_ixor dX12_lost_141, s_mo_bin _ _⟩, (List.forall_mem_cons.mpr ⟨⟨s_iand dX12_lost_142, s_mo_bin _ _⟩, (List.forall_mem_cons.mpr ⟨⟨s_sV mk_222 mk_219 ok_219 (by decide +kernel) dX12_lost_143 w_1589 w_1591 wp_65 (Or.inr ⟨8, _, _, rfl, rfl⟩), s_h0 mk_222⟩, (List.forall_mem_cons.mpr ⟨⟨s_ldIn dX12_lost_146 rfl, s_mo_ldI _ _⟩, (List.forall_mem_cons.mpr ⟨⟨s_ldI dX12_lost_147, s_mo_ldI _ _⟩, (List.forall_mem_cons.mpr ⟨⟨s_isub dX12_lost_149, s_mo_bin _ _⟩, (List.forall_mem_cons.mpr ⟨⟨s_isub dX12_lost_150, s_mo_bin _ _⟩, (List.forall_mem_cons.mpr ⟨s_r1 mk_222 dX12_lost_151, (fun _ h => absurd h List.not_mem_nil)⟩)⟩)⟩)⟩)⟩)⟩)⟩)⟩)⟩)⟩)⟩)⟩)⟩)⟩)⟩)⟩)⟩)⟩)⟩)
theorem km_222 : ∀ t ∈ tm_222, s_tok 222 t := (List.forall_mem_cons.mpr ⟨s_lift mk_222 kb_222_0, (List.forall_mem_cons.mpr ⟨s_lift mk_222 kb_222_1, (List.forall_mem_cons.mpr ⟨s_lift mk_222 kb_222_2, (fun _ h => absurd h List.not_mem_nil)⟩)⟩)⟩)
theorem dX12_share_0 : decode cX12_share 0 = .ok (.aload_n 0, 1) := by decide +kernel
theorem dX12_share_1 : decode cX12_share 1 = .ok (.iconst 0, 1) := by decide +kernel
theorem dX12_share_2 : decode cX12_share 2 = .ok (.putfield 3, 3) := by decide +kernel
theorem dX12_share_5 : decode cX12_share 5 = .ok (.aload_n 0, 1) := by decide +kernel
theorem dX12_share_6 : decode cX12_share 6 = .ok (.aload_n 0, 1) := by decide +kernel
theorem dX12_share_7 : decode cX12_share 7 = .ok (.iload_n 1, 1) := by decide +kernel
theorem dX12_share_8 : decode cX12_share 8 = .ok (.invokevirtual 264, 3) := by decide +kernel
theorem dX12_share_11 : decode cX12_share 11 = .ok (.ifCond .ne 13, 3) := by decide +kernel
theorem dX12_share_14 : decode cX12_share 14 = .ok (.iload_n 2, 1) := by decide +kernel
theorem dX12_share_15 : decode cX12_share 15 = .ok (.iconst 0, 1) := by decide +kernel
theorem dX12_share_16 : decode cX12_share 16 = .ok (.bipush 7, 2) := by decide +kernel
theorem dX12_share_18 : decode cX12_share 18 = .ok (.invokestatic 84, 3) := by decide +kernel
theorem dX12_share_21 : decode cX12_share 21 = .ok (.ifCond .ne 7, 3) := by decide +kernel
theorem dX12_share_24 : decode cX12_share 24 = .ok (.iconst 1, 1) := by decide +kernel
theorem dX12_share_25 : decode cX12_share 25 = .ok (.goto 4, 3) := by decide +kernel
theorem dX12_share_28 : decode cX12_share 28 = .ok (.iconst 0, 1) := by decide +kernel
theorem dX12_share_29 : decode cX12_share 29 = .ok (.iconst 1, 1) := by decide +kernel
theorem dX12_share_30 : decode cX12_share 30 = .ok (.invokevirtual 234, 3) := by decide +kernel
theorem dX12_share_33 : decode cX12_share 33 = .ok (.ifCond .ne 27, 3) := by decide +kernel
theorem dX12_share_36 : decode cX12_share 36 = .ok (.aload_n 0, 1) := by decide +kernel
theorem dX12_share_37 : decode cX12_share 37 = .ok (.iload_n 3, 1) := by decide +kernel
theorem dX12_share_38 : decode cX12_share 38 = .ok (.iconst 0, 1) := by decide +kernel
theorem dX12_share_39 : decode cX12_share 39 = .ok (.sipush 9999, 3) := by decide +kernel
theorem dX12_share_42 : decode cX12_share 42 = .ok (.invokestatic 84, 3) := by decide +kernel
theorem dX12_share_45 : decode cX12_share 45 = .ok (.ifCond .ne 7, 3) := by decide +kernel
theorem dX12_share_48 : decode cX12_share 48 = .ok (.iconst 1, 1) := by decide +kernel
theorem dX12_share_49 : decode cX12_share 49 = .ok (.goto 4, 3) := by decide +kernel
theorem dX12_share_52 : decode cX12_share 52 = .ok (.iconst 0, 1) := by decide +kernel
theorem dX12_share_53 : decode cX12_share 53 = .ok (.iconst 2, 1) := by decide +kernel
theorem dX12_share_54 : decode cX12_share 54 = .ok (.invokevirtual 234, 3) := by decide +kernel
theorem dX12_share_57 : decode cX12_share 57 = .ok (.ifCond .eq 5, 3) := by decide +kernel
theorem dX12_share_60 : decode cX12_share 60 = .ok (.iconst 0, 1) := by decide +kernel
theorem dX12_share_61 : decode cX12_share 61 = .ok (.ireturn, 1) := by decide +kernel
theorem dX12_share_62 : decode cX12_share 62 = .ok (.iconst 0, 1) := by decide +kernel
theorem dX12_share_63 : decode cX12_share 63 = .ok (.istore 4, 2) := by decide +kernel
theorem dX12_share_65 : decode cX12_share 65 = .ok (.iload 4, 2) := by decide +kernel
theorem dX12_share_67 : decode cX12_share 67 = .ok (.bipush 8, 2) := by decide +kernel
theorem dX12_share_69 : decode cX12_share 69 = .ok (.if_icmp .ge 17, 3) := by decide +kernel
theorem dX12_share_72 : decode cX12_share 72 = .ok (.aload_n 0, 1) := by decide +kernel
theorem dX12_share_73 : decode cX12_share 73 = .ok (.getfield 45, 3) := by decide +kernel
theorem dX12_share_76 : decode cX12_share 76 = .ok (.iload 4, 2) := by decide +kernel
theorem dX12_share_78 : decode cX12_share 78 = .ok (.iconst 0, 1) := by decide +kernel
theorem dX12_share_79 : decode cX12_share 79 = .ok (.iastore, 1) := by decide +kernel
theorem dX12_share_80 : decode cX12_share 80 = .ok (.iinc 4 1, 3) := by decide +kernel
theorem dX12_share_83 : decode cX12_share 83 = .ok (.goto (-18), 3) := by decide +kernel
theorem dX12_share_86 : decode cX12_share 86 = .ok (.aload_n 0, 1) := by decide +kernel
theorem dX12_share_87 : decode cX12_share 87 = .ok (.getfield 45, 3) := by decide +kernel
theorem dX12_share_90 : decode cX12_share 90 = .ok (.aload_n 0, 1) := by decide +kernel
theorem dX12_share_91 : decode cX12_share 91 = .ok (.iload_n 1, 1) := by decide +kernel
theorem dX12_share_92 : decode cX12_share 92 = .ok (.iconst 4, 1) := by decide +kernel
theorem dX12_share_93 : decode cX12_share 93 = .ok (.invokevirtual 88, 3) := by decide +kernel
theorem dX12_share_96 : decode cX12_share 96 = .ok (.bipush 50, 2) := by decide +kernel
theorem dX12_share_98 : decode cX12_share 98 = .ok (.iastore, 1) := by decide +kernel
theorem dX12_share_99 : decode cX12_share 99 = .ok (.bipush 50, 2) := by decide +kernel
theorem dX12_share_101 : decode cX12_share 101 = .ok (.istore 4, 2) := by decide +kernel
theorem dX12_share_103 : decode cX12_share 103 = .ok (.iconst 0, 1) := by decide +kernel
theorem dX12_share_104 : decode cX12_share 104 = .ok (.istore 5, 2) := by decide +kernel
theorem dX12_share_106 : decode cX12_share 106 = .ok (.iload 5, 2) := by decide +kernel
theorem dX12_share_108 : decode cX12_share 108 = .ok (.iconst 4, 1) := by decide +kernel
theorem dX12_share_109 : decode cX12_share 109 = .ok (.if_icmp .ge 46, 3) := by decide +kernel
theorem dX12_share_112 : decode cX12_share 112 = .ok (.aload_n 0, 1) := by decide +kernel
theorem dX12_share_113 : decode cX12_share 113 = .ok (.iload_n 1, 1) := by decide +kernel
theorem dX12_share_114 : decode cX12_share 114 = .ok (.iload 5, 2) := by decide +kernel
theorem dX12_share_116 : decode cX12_share 116 = .ok (.invokevirtual 313, 3) := by decide +kernel
theorem dX12_share_119 : decode cX12_share 119 = .ok (.istore 6, 2) := by decide +kernel
theorem dX12_share_121 : decode cX12_share 121 = .ok (.iload 6, 2) := by decide +kernel
theorem dX12_share_123 : decode cX12_share 123 = .ok (.ifCond .ge 6, 3) := by decide +kernel
theorem dX12_share_126 : decode cX12_share 126 = .ok (.goto 23, 3) := by decide +kernel
theorem dX12_share_129 : decode cX12_share 129 = .ok (.aload_n 0, 1) := by decide +kernel
theorem dX12_share_130 : decode cX12_share 130 = .ok (.getfield 45, 3) := by decide +kernel
theorem dX12_share_133 : decode cX12_share 133 = .ok (.aload_n 0, 1) := by decide +kernel
theorem dX12_share_134 : decode cX12_share 134 = .ok (.iload 6, 2) := by decide +kernel
theorem dX12_share_136 : decode cX12_share 136 = .ok (.iconst 4, 1) := by decide +kernel
theorem dX12_share_137 : decode cX12_share 137 = .ok (.invokevirtual 88, 3) := by decide +kernel
theorem dX12_share_140 : decode cX12_share 140 = .ok (.dup2, 1) := by decide +kernel
theorem dX12_share_141 : decode cX12_share 141 = .ok (.iaload, 1) := by decide +kernel
theorem dX12_share_142 : decode cX12_share 142 = .ok (.bipush 25, 2) := by decide +kernel
theorem dX12_share_144 : decode cX12_share 144 = .ok (.iadd, 1) := by decide +kernel
theorem dX12_share_145 : decode cX12_share 145 = .ok (.iastore, 1) := by decide +kernel
theorem dX12_share_146 : decode cX12_share 146 = .ok (.iinc 4 25, 3) := by decide +kernel
theorem dX12_share_149 : decode cX12_share 149 = .ok (.iinc 5 1, 3) := by decide +kernel
theorem dX12_share_152 : decode cX12_share 152 = .ok (.goto (-46), 3) := by decide +kernel
theorem dX12_share_155 : decode cX12_share 155 = .ok (.iload_n 3, 1) := by decide +kernel
theorem dX12_share_156 : decode cX12_share 156 = .ok (.istore 5, 2) := by decide +kernel
theorem dX12_share_158 : decode cX12_share 158 = .ok (.iconst 0, 1) := by decide +kernel
theorem dX12_share_159 : decode cX12_share 159 = .ok (.istore 6, 2) := by decide +kernel
theorem dX12_share_161 : decode cX12_share 161 = .ok (.iload 6, 2) := by decide +kernel
theorem dX12_share_163 : decode cX12_share 163 = .ok (.bipush 8, 2) := by decide +kernel
theorem dX12_share_165 : decode cX12_share 165 = .ok (.if_icmp .ge 26, 3) := by decide +kernel
theorem dX12_share_168 : decode cX12_share 168 = .ok (.iload 5, 2) := by decide +kernel
theorem dX12_share_170 : decode cX12_share 170 = .ok (.iload_n 3, 1) := by decide +kernel
theorem dX12_share_171 : decode cX12_share 171 = .ok (.aload_n 0, 1) := by decide +kernel
theorem dX12_share_172 : decode cX12_share 172 = .ok (.getfield 45, 3) := by decide +kernel
theorem dX12_share_175 : decode cX12_share 175 = .ok (.iload 6, 2) := by decide +kernel
theorem dX12_share_177 : decode cX12_share 177 = .ok (.iaload, 1) := by decide +kernel
theorem dX12_share_178 : decode cX12_share 178 = .ok (.imul, 1) := by decide +kernel
theorem dX12_share_179 : decode cX12_share 179 = .ok (.iload 4, 2) := by decide +kernel
theorem dX12_share_181 : decode cX12_share 181 = .ok (.idiv, 1) := by decide +kernel
theorem dX12_share_182 : decode cX12_share 182 = .ok (.isub, 1) := by decide +kernel
theorem dX12_share_183 : decode cX12_share 183 = .ok (.istore 5, 2) := by decide +kernel
theorem dX12_share_185 : decode cX12_share 185 = .ok (.iinc 6 1, 3) := by decide +kernel
theorem dX12_share_188 : decode cX12_share 188 = .ok (.goto (-27), 3) := by decide +kernel
theorem dX12_share_191 : decode cX12_share 191 = .ok (.iload_n 3, 1) := by decide +kernel
theorem dX12_share_192 : decode cX12_share 192 = .ok (.aload_n 0, 1) := by decide +kernel
theorem dX12_share_193 : decode cX12_share 193 = .ok (.getfield 45, 3) := by decide +kernel
theorem dX12_share_196 : decode cX12_share 196 = .ok (.iload_n 2, 1) := by decide +kernel
theorem dX12_share_197 : decode cX12_share 197 = .ok (.iaload, 1) := by decide +kernel
theorem dX12_share_198 : decode cX12_share 198 = .ok (.imul, 1) := by decide +kernel
theorem dX12_share_199 : decode cX12_share 199 = .ok (.iload 4, 2) := by decide +kernel
theorem dX12_share_201 : decode cX12_share 201 = .ok (.idiv, 1) := by decide +kernel
theorem dX12_share_202 : decode cX12_share 202 = .ok (.istore 6, 2) := by decide +kernel
theorem dX12_share_204 : decode cX12_share 204 = .ok (.iconst 0, 1) := by decide +kernel
theorem dX12_share_205 : decode cX12_share 205 = .ok (.istore 7, 2) := by decide +kernel
theorem dX12_share_207 : decode cX12_share 207 = .ok (.iload 7, 2) := by decide +kernel
theorem dX12_share_209 : decode cX12_share 209 = .ok (.iload_n 2, 1) := by decide +kernel
theorem dX12_share_210 : decode cX12_share 210 = .ok (.if_icmp .ge 29, 3) := by decide +kernel
theorem dX12_share_213 : decode cX12_share 213 = .ok (.iload 5, 2) := by decide +kernel
theorem dX12_share_215 : decode cX12_share 215 = .ok (.aload_n 0, 1) := by decide +kernel
theorem dX12_share_216 : decode cX12_share 216 = .ok (.getfield 45, 3) := by decide +kernel
theorem dX12_share_219 : decode cX12_share 219 = .ok (.iload 7, 2) := by decide +kernel
theorem dX12_share_221 : decode cX12_share 221 = .ok (.iaload, 1) := by decide +kernel
theorem dX12_share_222 : decode cX12_share 222 = .ok (.ifCond .le 7, 3) := by decide +kernel
theorem dX12_share_225 : decode cX12_share 225 = .ok (.iconst 1, 1) := by decide +kernel
theorem dX12_share_226 : decode cX12_share 226 = .ok (.goto 4, 3) := by decide +kernel
theorem dX12_share_229 : decode cX12_share 229 = .ok (.iconst 0, 1) := by decide +kernel
theorem dX12_share_230 : decode cX12_share 230 = .ok (.isub, 1) := by decide +kernel
theorem dX12_share_231 : decode cX12_share 231 = .ok (.istore 5, 2) := by decide +kernel
theorem dX12_share_233 : decode cX12_share 233 = .ok (.iinc 7 1, 3) := by decide +kernel
theorem dX12_share_236 : decode cX12_share 236 = .ok (.goto (-29), 3) := by decide +kernel
theorem dX12_share_239 : decode cX12_share 239 = .ok (.iload 6, 2) := by decide +kernel
theorem dX12_share_241 : decode cX12_share 241 = .ok (.aload_n 0, 1) := by decide +kernel
theorem dX12_share_242 : decode cX12_share 242 = .ok (.getfield 45, 3) := by decide +kernel
theorem dX12_share_245 : decode cX12_share 245 = .ok (.iload_n 2, 1) := by decide +kernel
theorem dX12_share_246 : decode cX12_share 246 = .ok (.iaload, 1) := by decide +kernel
theorem dX12_share_247 : decode cX12_share 247 = .ok (.ifCond .le 12, 3) := by decide +kernel
theorem dX12_share_250 : decode cX12_share 250 = .ok (.iload 5, 2) := by decide +kernel
theorem dX12_share_252 : decode cX12_share 252 = .ok (.ifCond .le 7, 3) := by decide +kernel
theorem dX12_share_255 : decode cX12_share 255 = .ok (.iconst 1, 1) := by decide +kernel
theorem dX12_share_256 : decode cX12_share 256 = .ok (.goto 4, 3) := by decide +kernel
theorem dX12_share_259 : decode cX12_share 259 = .ok (.iconst 0, 1) := by decide +kernel
theorem dX12_share_260 : decode cX12_share 260 = .ok (.iadd, 1) := by decide +kernel
theorem dX12_share_261 : decode cX12_share 261 = .ok (.ireturn, 1) := by decide +kernel
set_option maxRecDepth 20000 in
theorem kb_223_0 : ∀ q ∈ tb_223_0, s_atx 223 yX12_share cX12_share q.1 q.2 := (List.forall_mem_cons.mpr ⟨⟨s_ldAn dX12_share_0 rfl, s_mo_ldA _ _⟩, (List.forall_mem_cons.mpr ⟨⟨s_iconst dX12_share_1 (by decide +kernel), s_mo_push _ _⟩, (List.forall_mem_cons.mpr ⟨⟨s_putI (ci := 8) (k := 0) rfl (by decide) inX12 tyX12_ok nmX12 rfl rfl w_1221 dX12_share_2, s_mo_putI _ _ _⟩, (List.forall_mem_cons.mpr ⟨⟨s_ldAn dX12_share_5 rfl, s_mo_ldA _ _⟩, (List.forall_mem_cons.mpr ⟨⟨s_ldAn dX12_share_6 rfl, s_mo_ldA _ _⟩, (List.forall_mem_cons.mpr ⟨⟨s_ldIn dX12_share_7 rfl, s_mo_ldI _ _⟩, (List.forall_mem_cons.mpr ⟨⟨s_sV mk_223 mk_160 ok_160 (by decide +kernel) dX12_share_8 w_1450 w_1452 wp_48 (Or.inr ⟨8, _, _, rfl, rfl⟩), s_h0 mk_223⟩, (List.forall_mem_cons.mpr ⟨⟨s_ifne dX12_share_11 (by decide), s_mo_ifne _ _⟩, (List.forall_mem_cons.mpr ⟨⟨s_ldIn dX12_share_14 rfl, s_mo_ldI _ _⟩, (List.forall_mem_cons.mpr ⟨⟨s_iconst dX12_share_15 (by decide +kernel), s_mo_push _ _⟩, (List.forall_mem_cons.mpr ⟨⟨s_bipush dX12_share_16 (by decide +kernel), s_mo_push _ _⟩, (List.forall_mem_cons.mpr ⟨⟨s_sS mk_223 mk_150 ok_150 (by decide +kernel) dX12_share_18 w_1458 w_1459, s_h0 mk_223⟩, (List.forall_mem_cons.mpr ⟨⟨s_ifne dX12_share_21 (by decide), s_mo_ifne _ _⟩, (List.forall_mem_cons.mpr ⟨⟨s_iconst dX12_share_24 (by decide +kernel), s_mo_push _ _⟩, (List.forall_mem_cons.mpr ⟨⟨s_goto dX12_share_25 (by decide), s_mo_goto _⟩, (List.forall_mem_cons.mpr ⟨⟨s_iconst dX12_share_28 (by decide +kernel), s_mo_push _ _⟩, (List.forall_mem_cons.mpr ⟨⟨s_iconst dX12_share_29 (by decide +kernel), s_mo_push _ _⟩, (List.forall_mem_cons.mpr ⟨⟨s_sV mk_223 mk_149 ok_149 (by decide +kernel) dX12_share_30 w_1438 w_1440 wp_47 (Or.inr ⟨8, _, _, rfl, rfl⟩), s_h0 mk_223⟩, (List.forall_mem_cons.mpr ⟨⟨s_ifne dX12_share_33 (by decide), s_mo_ifne _ _⟩, (List.forall_mem_cons.mpr ⟨⟨s_ldAn dX12_share_36 rfl, s_mo_ldA _ _⟩, (List.forall_mem_cons.mpr ⟨⟨s_ldIn dX12_share_37 rfl, s_mo_ldI _ _⟩, (List.forall_mem_cons.mpr ⟨⟨s_iconst dX12_share_38 (by decide +kernel), s_mo_push _ _⟩, (List.forall_mem_cons.mpr ⟨⟨s_sipush dX12_share_39 (by decide +kernel), s_mo_push _ _⟩, (List.forall_mem_cons.mpr ⟨⟨s_sS mk_223 mk_150 ok_150 (by decide +kernel) dX12_share_42 w_1458 w_1459, s_h0 mk_223⟩, (List.forall_mem_cons.mpr ⟨⟨s_ifne dX12_share_45 (by decide), s_mo_ifne _ _⟩, (List.forall_mem_cons.mpr ⟨⟨s_iconst dX12_share_48 (by decide +kernel), s_mo_push _ _⟩, (List.forall_mem_cons.mpr ⟨⟨s_goto dX12_share_49 (by decide), s_mo_goto _⟩, (List.forall_mem_cons.mpr ⟨⟨s_iconst dX12_share_52 (by decide +kernel), s_mo_push _ _⟩, (List.forall_mem_cons.mpr ⟨⟨s_iconst dX12_share_53 (by decide +kernel), s_mo_push _ _⟩, (List.forall_mem_cons.mpr ⟨⟨s_sV mk_223 mk_149 ok_149 (by decide +kernel) dX12_share_54 w_1438 w_1440 wp_47 (Or.inr ⟨8, _, _, rfl, rfl⟩), s_h0 mk_223⟩, (List.forall_mem_cons.mpr ⟨⟨s_ifeq dX12_share_57 (by decide), s_mo_ifeq _ _⟩, (List.forall_mem_cons.mpr ⟨⟨s_iconst dX12_share_60 (by decide +kernel), s_mo_push _ _⟩, (List.forall_mem_cons.mpr ⟨s_r1 mk_223 dX12_share_61, (List.forall_mem_cons.mpr ⟨⟨s_iconst dX12_share_62 (by decide +kernel), s_mo_push _ _⟩, (List.forall_mem_cons.mpr ⟨⟨s_stI dX12_share_63, s_mo_stI _ _⟩, (fun _ h => absurd h List.not_mem_nil)⟩)⟩)⟩)⟩)⟩)⟩)⟩)⟩)⟩)⟩)⟩)⟩)⟩)⟩)⟩)⟩)⟩)⟩)⟩)⟩)⟩)⟩)⟩)⟩)⟩)⟩)⟩)⟩)⟩)⟩)⟩)⟩)⟩)⟩)⟩)
set_option maxRecDepth 20000 in
theorem kb_223_1 : ∀ q ∈ tb_223_1, s_atx 223 yX12_share cX12_share q.1 q.2 := (List.forall_mem_cons.mpr ⟨⟨s_ldI dX12_share_65, s_mo_ldI _ _⟩, (List.forall_mem_cons.mpr ⟨⟨s_bipush dX12_share_67 (by decide +kernel), s_mo_push _ _⟩, (List.forall_mem_cons.mpr ⟨⟨s_icge dX12_share_69 (by decide), s_mo_icge _ _⟩, (List.forall_mem_cons.mpr ⟨⟨s_ldAn dX12_share_72 rfl, s_mo_ldA _ _⟩, (List.forall_mem_cons.mpr ⟨⟨s_getf (ci := 8) (k := 20) rfl (by decide) inX12 w_1241 dX12_share_73, s_mo_getf _ _ _⟩, (List.forall_mem_cons.mpr ⟨⟨s_ldI dX12_share_76, s_mo_ldI _ _⟩, (List.forall_mem_cons.mpr ⟨⟨s_iconst dX12_share_78 (by decide +kernel), s_mo_push _ _⟩, (List.forall_mem_cons.mpr ⟨⟨s_iast dX12_share_79, s_mo_iast _⟩, (List.forall_mem_cons.mpr ⟨⟨s_inc dX12_share_80 (by decide +kernel), s_mo_inc _ _ _⟩, (List.forall_mem_cons.mpr ⟨⟨s_goto dX12_share_83 (by decide), s_mo_goto _⟩, (List.forall_mem_cons.mpr ⟨⟨s_ldAn dX12_share_86 rfl, s_mo_ldA _ _⟩, (List.forall_mem_cons.mpr ⟨⟨s_getf (ci := 8) (k := 20) rfl (by decide) inX12 w_1241 dX12_share_87, s_mo_getf _ _ _⟩, (List.forall_mem_cons.mpr ⟨⟨s_ldAn dX12_share_90 rfl, s_mo_ldA _ _⟩, (List.forall_mem_cons.mpr ⟨⟨s_ldIn dX12_share_91 rfl, s_mo_ldI _ _⟩, (List.forall_mem_cons.mpr ⟨⟨s_iconst dX12_share_92 (by decide +kernel), s_mo_push _ _⟩, (List.forall_mem_cons.mpr ⟨⟨s_sV mk_223 mk_158 ok_158 (by decide +kernel) dX12_share_93 w_1469 w_1471 wp_52 (Or.inr ⟨8, _, _, rfl, rfl⟩), s_h0 mk_223⟩, (List.forall_mem_cons.mpr ⟨⟨s_bipush dX12_share_96 (by decide +kernel), s_mo_push _ _⟩, (List.forall_mem_cons.mpr ⟨⟨s_iast dX12_share_98, s_mo_iast _⟩, (List.forall_mem_cons.mpr ⟨⟨s_bipush dX12_share_99 (by decide +kernel), s_mo_push _ _⟩, (List.forall_mem_cons.mpr ⟨⟨s_stI dX12_share_101, s_mo_stI _ _⟩, (List.forall_mem_cons.mpr ⟨⟨s_iconst dX12_share_103 (by decide +kernel), s_mo_push _ _⟩, (List.forall_mem_cons.mpr ⟨⟨s_stI dX12_share_104, s_mo_stI _ _⟩, (List.forall_mem_cons.mpr ⟨⟨s_ldI dX12_share_106, s_mo_ldI _ _⟩, (List.forall_mem_cons.mpr ⟨⟨s_iconst dX12_share_108 (by decide +kernel), s_mo_push _ _⟩, (List.forall_mem_cons.mpr ⟨⟨s_icge dX12_share_109 (by decide), s_mo_icge _ _⟩, (List.forall_mem_cons.mpr ⟨⟨s_ldAn dX12_share_112 rfl, s_mo_ldA _ _⟩, (List.forall_mem_cons.mpr ⟨⟨s_ldIn dX12_share_113 rfl, s_mo_ldI _ _⟩, (List.forall_mem_cons.mpr ⟨⟨s_ldI dX12_share_114, s_mo_ldI _ _⟩, (List.forall_mem_cons.mpr ⟨⟨s_sV mk_223 mk_163 ok_163 (by decide +kernel) dX12_share_116 w_1604 w_1606 wp_66 (Or.inr ⟨8, _, _, rfl, rfl⟩), s_h0 mk_223⟩, (List.forall_mem_cons.mpr ⟨⟨s_stI dX12_share_119, s_mo_stI _ _⟩, (List.forall_mem_cons.mpr ⟨⟨s_ldI dX12_share_121, s_mo_ldI _ _⟩, (List.forall_mem_cons.mpr ⟨⟨s_ifge dX12_share_123 (by decide), s_mo_ifge _ _⟩, (List.forall_mem_cons.mpr ⟨⟨s_goto dX12_share_126 (by decide), s_mo_goto _⟩, (fun _ h => absurd h List.not_mem_nil)⟩)⟩)⟩)⟩)⟩)⟩)⟩)⟩)⟩)⟩)⟩)⟩)⟩)⟩)⟩)⟩)⟩)⟩)⟩)⟩)⟩)⟩)⟩)⟩)⟩)⟩)⟩)⟩)⟩)⟩)⟩)⟩)⟩)
set_option maxRecDepth 20000 in
theorem kb_223_2 : ∀ q ∈ tb_223_2, s_atx 223 yX12_share cX12_share q.1 q.2 := (List.forall_mem_cons.mpr ⟨⟨s_ldAn dX12_share_129 rfl, s_mo_ldA _ _⟩, (List.forall_mem_cons.mpr ⟨⟨s_getf (ci := 8) (k := 20) rfl (by decide) inX12 w_1241 dX12_share_130, s_mo_getf _ _ _⟩, (List.forall_mem_cons.mpr ⟨⟨s_ldAn dX12_share_133 rfl, s_mo_ldA _ _⟩, (List.forall_mem_cons.mpr ⟨⟨s_ldI dX12_share_134, s_mo_ldI _ _⟩, (List.forall_mem_cons.mpr ⟨⟨s_iconst dX12_share_136 (by decide +kernel), s_mo_push _ _⟩, (List.forall_mem_cons.mpr ⟨⟨s_sV mk_223 mk_158 ok_158 (by decide +kernel) dX12_share_137 w_1469 w_1471 wp_52 (Or.inr ⟨8, _, _, rfl, rfl⟩), s_h0 mk_223⟩, (List.forall_mem_cons.mpr ⟨⟨s_dup2 dX12_share_140, s_mo_dup2 _⟩, (List.forall_mem_cons.mpr ⟨⟨s_iald dX12_share_141, s_mo_iald _⟩, (List.forall_mem_cons.mpr ⟨⟨s_bipush dX12_share_142 (by decide +kernel), s_mo_push _ _⟩, (List.forall_mem_cons.mpr ⟨⟨s_iadd dX12_share_144, s_mo_bin _ _⟩, (List.forall_mem_cons.mpr ⟨⟨s_iast dX12_share_145, s_mo_iast _⟩, (List.forall_mem_cons.mpr ⟨⟨s_inc dX12_share_146 (by decide +kernel), s_mo_inc _ _ _⟩, (List.forall_mem_cons.mpr ⟨⟨s_inc dX12_share_149 (by decide +kernel), s_mo_inc _ _ _⟩, (List.forall_mem_cons.mpr ⟨⟨s_goto dX12_share_152 (by decide), s_mo_goto _⟩, (List.forall_mem_cons.mpr ⟨⟨s_ldIn dX12_share_155 rfl, s_mo_ldI _ _⟩, (List.forall_mem_cons.mpr ⟨⟨s_stI dX12_share_156, s_mo_stI _ _⟩, (List.forall_mem_cons.mpr ⟨⟨s_iconst dX12_share_158 (by decide +kernel), s_mo_push _ _⟩, (List.forall_mem_cons.mpr ⟨⟨s_stI dX12_share_159, s_mo_stI _ _⟩, (List.forall_mem_cons.mpr ⟨⟨s_ldI dX12_share_161, s_mo_ldI _ _⟩, (List.forall_mem_cons.mpr ⟨⟨s_bipush dX12_share_163 (by decide +kernel), s_mo_push _ _⟩, (List.forall_mem_cons.mpr ⟨⟨s_icge dX12_share_165 (by decide), s_mo_icge _ _⟩, (List.forall_mem_cons.mpr ⟨⟨s_ldI dX12_share_168, s_mo_ldI _ _⟩, (List.forall_mem_cons.mpr ⟨⟨s_ldIn dX12_share_170 rfl, s_mo_ldI _ _⟩, (List.forall_mem_cons.mpr ⟨⟨s_ldAn dX12_share_171 rfl, s_mo_ldA _ _⟩, (List.forall_mem_cons.mpr ⟨⟨s_getf (ci := 8) (k := 20) rfl (by decide) inX12 w_1241 dX12_share_172, s_mo_getf _ _ _⟩, (List.forall_mem_cons.mpr ⟨⟨s_ldI dX12_share_175, s_mo_ldI _ _⟩, (List.forall_mem_cons.mpr ⟨⟨s_iald dX12_share_177, s_mo_iald _⟩, (List.forall_mem_cons.mpr ⟨⟨s_imul dX12_share_178, s_mo_bin _ _⟩, (List.forall_mem_cons.mpr ⟨⟨s_ldI dX12_share_179, s_mo_ldI _ _⟩, (List.forall_mem_cons.mpr ⟨⟨s_idiv dX12_share_181, s_mo_div _⟩, (List.forall_mem_cons.mpr ⟨⟨s_isub dX12_share_182, s_mo_bin _ _⟩, (List.forall_mem_cons.mpr ⟨⟨s_stI dX12_share_183, s_mo_stI _ _⟩, (List.forall_mem_cons.mpr ⟨⟨s_inc dX12_share_185 (by decide +kernel), s_mo_inc _ _ _⟩, (List.forall_mem_cons.mpr ⟨⟨s_goto dX12_share_188 (by decide), s_mo_goto _⟩, (List.forall_mem_cons.mpr ⟨⟨s_ldIn dX12_share_191 rfl, s_mo_ldI _ _⟩, (fun _ h => absurd h List.not_mem_nil)⟩)⟩)⟩)⟩)⟩)⟩)⟩)⟩)⟩)⟩)⟩)⟩)⟩)⟩)⟩)⟩)⟩)⟩)⟩)⟩)⟩)⟩)⟩)⟩)⟩)⟩)⟩)⟩)⟩)⟩)⟩)⟩)⟩)⟩)⟩)
set_option maxRecDepth 20000 in
theorem kb_223_3 : ∀ q ∈ tb_223_3, s_atx 223 yX12_share cX12_share q.1 q.2 := (List.forall_mem_cons.mpr ⟨⟨s_ldAn dX12_share_192 rfl, s_mo_ldA _ _⟩, (List.forall_mem_cons.mpr ⟨⟨s_getf (ci := 8) (k := 20) rfl (by decide) inX12 w_1241 dX12_share_193, s_mo_getf _ _ _⟩, (List.forall_mem_cons.mpr ⟨⟨s_ldIn dX12_share_196 rfl, s_mo_ldI _ _⟩, (List.forall_mem_cons.mpr ⟨⟨s_iald dX12_share_197, s_mo_iald _⟩, (List.forall_mem_cons.mpr ⟨⟨s_imul dX12_share_198, s_mo_bin _ _⟩, (List.forall_mem_cons.mpr ⟨⟨s_ldI dX12_share_199, s_mo_ldI _ _⟩, (List.forall_mem_cons.mpr ⟨⟨s_idiv dX12_share_201, s_mo_div _⟩, (List.forall_mem_cons.mpr ⟨⟨s_stI dX12_share_202, s_mo_stI _ _⟩, (List.forall_mem_cons.mpr ⟨⟨s_iconst dX12_share_204 (by decide +kernel), s_mo_push _ _⟩, (List.forall_mem_cons.mpr ⟨⟨s_stI dX12_share_205, s_mo_stI _ _⟩, (List.forall_mem_cons.mpr ⟨⟨s_ldI dX12_share_207, s_mo_ldI _ _⟩, (List.forall_mem_cons.mpr ⟨⟨s_ldIn dX12_share_209 rfl, s_mo_ldI _ _⟩, (List.forall_mem_cons.mpr ⟨⟨s_icge dX12_share_210 (by decide), s_mo_icge _ _⟩, (List.forall_mem_cons.mpr ⟨⟨s_ldI dX12_share_213, s_mo_ldI _ _⟩, (List.forall_mem_cons.mpr ⟨⟨s_ldAn dX12_share_215 rfl, s_mo_ldA _ _⟩, (List.forall_mem_cons.mpr ⟨⟨s_getf (ci := 8) (k := 20) rfl (by decide) inX12 w_1241 dX12_share_216, s_mo_getf _ _ _⟩, (List.forall_mem_cons.mpr ⟨⟨s_ldI dX12_share_219, s_mo_ldI _ _⟩, (List.forall_mem_cons.mpr ⟨⟨s_iald dX12_share_221, s_mo_iald _⟩, (List.forall_mem_cons.mpr ⟨⟨s_ifle dX12_share_222 (by decide), s_mo_ifle _ _⟩, (List.forall_mem_cons.mpr ⟨⟨s_iconst dX12_share_225 (by decide +kernel), s_mo_push _ _⟩, (List.forall_mem_cons.mpr ⟨⟨s_goto dX12_share_226 (by decide), s_mo_goto _⟩, (List.forall_mem_cons.mpr ⟨⟨s_iconst dX12_share_229 (by decide +kernel), s_mo_push _ _⟩, (List.forall_mem_cons.mpr ⟨⟨s_isub dX12_share_230, s_mo_bin _ _⟩, (List.forall_mem_cons.mpr ⟨⟨s_stI dX12_share_231, s_mo_stI _ _⟩, (List.forall_mem_cons.mpr ⟨⟨s_inc dX12_share_233 (by decide +kernel), s_mo_inc _ _ _⟩, (List.forall_mem_cons.mpr ⟨⟨s_goto dX12_share_236 (by decide), s_mo_goto _⟩, (List.forall_mem_cons.mpr ⟨⟨s_ldI dX12_share_239, s_mo_ldI _ _⟩, (List.forall_mem_cons.mpr ⟨⟨s_ldAn dX12_share_241 rfl, s_mo_ldA _ _⟩, (List.forall_mem_cons.mpr ⟨⟨s_getf (ci := 8) (k := 20) rfl (by decide) inX12 w_1241 dX12_share_242, s_mo_getf _ _ _⟩, (List.forall_mem_cons.mpr ⟨⟨s_ldIn dX12_share_245 rfl, s_mo_ldI _ _⟩, (List.forall_mem_cons.mpr ⟨⟨s_iald dX12_share_246, s_mo_iald _⟩, (List.forall_mem_cons.mpr ⟨⟨s_ifle dX12_share_247 (by decide), s_mo_ifle _ _⟩, (List.forall_mem_cons.mpr ⟨⟨s_ldI dX12_share_250, s_mo_ldI _ _⟩, (List.forall_mem_cons.mpr ⟨⟨s_ifle dX12_share_252 (by decide), s_mo_ifle _ _⟩, (List.forall_mem_cons.mpr ⟨⟨s_iconst dX12_share_255 (by decide +kernel), s_mo_push _ _⟩, (fun _ h => absurd h List.not_mem_nil)⟩)⟩)⟩)⟩)⟩)⟩)⟩)⟩)⟩)⟩)⟩)⟩)⟩)⟩)⟩)⟩)⟩)⟩)⟩)⟩)⟩)⟩)⟩)⟩)⟩)⟩)⟩)⟩)⟩)⟩)⟩)⟩)⟩)⟩)⟩)
set_option maxRecDepth 20000 in
theorem kb_223_4 : ∀ q ∈ tb_223_4, s_atx 223 yX12_share cX12_share q.1 q.2 := (List.forall_mem_cons.mpr ⟨⟨s_goto dX12_share_256 (by decide), s_mo_goto _⟩, (List.forall_mem_cons.mpr ⟨⟨s_iconst dX12_share_259 (by decide +kernel), s_mo_push _ _⟩, (List.forall_mem_cons.mpr ⟨⟨s_iadd dX12_share_260, s_mo_bin _ _⟩, (List.forall_mem_cons.mpr ⟨s_r1 mk_223 dX12_share_261, (fun _ h => absurd h List.not_mem_nil)⟩)⟩)⟩)⟩)
theorem km_223 : ∀ t ∈ tm_223, s_tok 223 t := (List.forall_mem_cons.mpr ⟨s_lift mk_223 kb_223_0, (List.forall_mem_cons.mpr ⟨s_lift mk_223 kb_223_1, (List.forall_mem_cons.mpr ⟨s_lift mk_223 kb_223_2, (List.forall_mem_cons.mpr ⟨s_lift mk_223 kb_223_3, (List.forall_mem_cons.mpr ⟨s_lift mk_223 kb_223_4, (fun _ h => absurd h List.not_mem_nil)⟩)⟩)⟩)⟩)⟩)
theorem dX12_runsTo_0 : decode cX12_runsTo 0 = .ok (.iconst (-1), 1) := by decide +kernel
theorem dX12_runsTo_1 : decode cX12_runsTo 1 = .ok (.istore 4, 2) := by decide +kernel
theorem dX12_runsTo_3 : decode cX12_runsTo 3 = .ok (.iconst 0, 1) := by decide +kernel
theorem dX12_runsTo_4 : decode cX12_runsTo 4 = .ok (.istore 5, 2) := by decide +kernel
theorem dX12_runsTo_6 : decode cX12_runsTo 6 = .ok (.iconst 0, 1) := by decide +kernel
theorem dX12_runsTo_7 : decode cX12_runsTo 7 = .ok (.istore 6, 2) := by decide +kernel
theorem dX12_runsTo_9 : decode cX12_runsTo 9 = .ok (.iload 6, 2) := by decide +kernel
theorem dX12_runsTo_11 : decode cX12_runsTo 11 = .ok (.iconst 4, 1) := by decide +kernel
theorem dX12_runsTo_12 : decode cX12_runsTo 12 = .ok (.if_icmp .ge 112, 3) := by decide +kernel
theorem dX12_runsTo_15 : decode cX12_runsTo 15 = .ok (.aload_n 0, 1) := by decide +kernel
theorem dX12_runsTo_16 : decode cX12_runsTo 16 = .ok (.iload_n 1, 1) := by decide +kernel
theorem dX12_runsTo_17 : decode cX12_runsTo 17 = .ok (.iload 6, 2) := by decide +kernel
theorem dX12_runsTo_19 : decode cX12_runsTo 19 = .ok (.invokevirtual 313, 3) := by decide +kernel
theorem dX12_runsTo_22 : decode cX12_runsTo 22 = .ok (.istore 7, 2) := by decide +kernel
theorem dX12_runsTo_24 : decode cX12_runsTo 24 = .ok (.iload 7, 2) := by decide +kernel
theorem dX12_runsTo_26 : decode cX12_runsTo 26 = .ok (.ifCond .lt 92, 3) := by decide +kernel
theorem dX12_runsTo_29 : decode cX12_runsTo 29 = .ok (.iload_n 3, 1) := by decide +kernel
theorem dX12_runsTo_30 : decode cX12_runsTo 30 = .ok (.iload 7, 2) := by decide +kernel
theorem dX12_runsTo_32 : decode cX12_runsTo 32 = .ok (.invokestatic 304, 3) := by decide +kernel
theorem dX12_runsTo_35 : decode cX12_runsTo 35 = .ok (.ifCond .ne 83, 3) := by decide +kernel
theorem dX12_runsTo_38 : decode cX12_runsTo 38 = .ok (.aload_n 0, 1) := by decide +kernel
theorem dX12_runsTo_39 : decode cX12_runsTo 39 = .ok (.iload 7, 2) := by decide +kernel
theorem dX12_runsTo_41 : decode cX12_runsTo 41 = .ok (.iconst 3, 1) := by decide +kernel
theorem dX12_runsTo_42 : decode cX12_runsTo 42 = .ok (.invokevirtual 88, 3) := by decide +kernel
theorem dX12_runsTo_45 : decode cX12_runsTo 45 = .ok (.ifCond .gt 73, 3) := by decide +kernel
theorem dX12_runsTo_48 : decode cX12_runsTo 48 = .ok (.iload_n 2, 1) := by decide +kernel
theorem dX12_runsTo_49 : decode cX12_runsTo 49 = .ok (.iconst 5, 1) := by decide +kernel
theorem dX12_runsTo_50 : decode cX12_runsTo 50 = .ok (.aload_n 0, 1) := by decide +kernel
theorem dX12_runsTo_51 : decode cX12_runsTo 51 = .ok (.iload 7, 2) := by decide +kernel
theorem dX12_runsTo_53 : decode cX12_runsTo 53 = .ok (.iconst 0, 1) := by decide +kernel
theorem dX12_runsTo_54 : decode cX12_runsTo 54 = .ok (.invokevirtual 88, 3) := by decide +kernel
theorem dX12_runsTo_57 : decode cX12_runsTo 57 = .ok (.imul, 1) := by decide +kernel
theorem dX12_runsTo_58 : decode cX12_runsTo 58 = .ok (.if_icmp .gt 6, 3) := by decide +kernel
theorem dX12_runsTo_61 : decode cX12_runsTo 61 = .ok (.goto 57, 3) := by decide +kernel
theorem dX12_runsTo_64 : decode cX12_runsTo 64 = .ok (.aload_n 0, 1) := by decide +kernel
theorem dX12_runsTo_65 : decode cX12_runsTo 65 = .ok (.iload 7, 2) := by decide +kernel
theorem dX12_runsTo_67 : decode cX12_runsTo 67 = .ok (.iconst 1, 1) := by decide +kernel
theorem dX12_runsTo_68 : decode cX12_runsTo 68 = .ok (.invokevirtual 88, 3) := by decide +kernel
theorem dX12_runsTo_71 : decode cX12_runsTo 71 = .ok (.aload_n 0, 1) := by decide +kernel
theorem dX12_runsTo_72 : decode cX12_runsTo 72 = .ok (.iload_n 1, 1) := by decide +kernel
theorem dX12_runsTo_73 : decode cX12_runsTo 73 = .ok (.iconst 1, 1) := by decide +kernel
theorem dX12_runsTo_74 : decode cX12_runsTo 74 = .ok (.invokevirtual 88, 3) := by decide +kernel
theorem dX12_runsTo_77 : decode cX12_runsTo 77 = .ok (.isub, 1) := by decide +kernel
theorem dX12_runsTo_78 : decode cX12_runsTo 78 = .ok (.invokestatic 237, 3) := by decide +kernel
theorem dX12_runsTo_81 : decode cX12_runsTo 81 = .ok (.istore 8, 2) := by decide +kernel
theorem dX12_runsTo_83 : decode cX12_runsTo 83 = .ok (.iload 8, 2) := by decide +kernel
theorem dX12_runsTo_85 : decode cX12_runsTo 85 = .ok (.aload_n 0, 1) := by decide +kernel
theorem dX12_runsTo_86 : decode cX12_runsTo 86 = .ok (.getfield 13, 3) := by decide +kernel
theorem dX12_runsTo_89 : decode cX12_runsTo 89 = .ok (.bipush 6, 2) := by decide +kernel
theorem dX12_runsTo_91 : decode cX12_runsTo 91 = .ok (.iaload, 1) := by decide +kernel
theorem dX12_runsTo_92 : decode cX12_runsTo 92 = .ok (.if_icmp .lt 26, 3) := by decide +kernel
theorem dX12_runsTo_95 : decode cX12_runsTo 95 = .ok (.iload 4, 2) := by decide +kernel
theorem dX12_runsTo_97 : decode cX12_runsTo 97 = .ok (.ifCond .lt 13, 3) := by decide +kernel
theorem dX12_runsTo_100 : decode cX12_runsTo 100 = .ok (.iload 8, 2) := by decide +kernel
theorem dX12_runsTo_102 : decode cX12_runsTo 102 = .ok (.iload 5, 2) := by decide +kernel
theorem dX12_runsTo_104 : decode cX12_runsTo 104 = .ok (.if_icmp .gt 6, 3) := by decide +kernel
theorem dX12_runsTo_107 : decode cX12_runsTo 107 = .ok (.goto 11, 3) := by decide +kernel
theorem dX12_runsTo_110 : decode cX12_runsTo 110 = .ok (.iload 7, 2) := by decide +kernel
theorem dX12_runsTo_112 : decode cX12_runsTo 112 = .ok (.istore 4, 2) := by decide +kernel
theorem dX12_runsTo_114 : decode cX12_runsTo 114 = .ok (.iload 8, 2) := by decide +kernel
theorem dX12_runsTo_116 : decode cX12_runsTo 116 = .ok (.istore 5, 2) := by decide +kernel
theorem dX12_runsTo_118 : decode cX12_runsTo 118 = .ok (.iinc 6 1, 3) := by decide +kernel
theorem dX12_runsTo_121 : decode cX12_runsTo 121 = .ok (.goto (-112), 3) := by decide +kernel
theorem dX12_runsTo_124 : decode cX12_runsTo 124 = .ok (.iload 4, 2) := by decide +kernel
theorem dX12_runsTo_126 : decode cX12_runsTo 126 = .ok (.ireturn, 1) := by decide +kernel
set_option maxRecDepth 20000 in
theorem kb_224_0 : ∀ q ∈ tb_224_0, s_atx 224 yX12_runsTo cX12_runsTo q.1 q.2 := (List.forall_mem_cons.mpr ⟨⟨s_iconst dX12_runsTo_0 (by decide +kernel), s_mo_push _ _⟩, (List.forall_mem_cons.mpr ⟨⟨s_stI dX12_runsTo_1, s_mo_stI _ _⟩, (List.forall_mem_cons.mpr ⟨⟨s_iconst dX12_runsTo_3 (by decide +kernel), s_mo_push _ _⟩, (List.forall_mem_cons.mpr ⟨⟨s_stI dX12_runsTo_4, s_mo_stI _ _⟩, (List.forall_mem_cons.mpr ⟨⟨s_iconst dX12_runsTo_6 (by decide +kernel), s_mo_push _ _⟩, (List.forall_mem_cons.mpr ⟨⟨s_stI dX12_runsTo_7, s_mo_stI _ _⟩, (List.forall_mem_cons.mpr ⟨⟨s_ldI dX12_runsTo_9, s_mo_ldI _ _⟩, (List.forall_mem_cons.mpr ⟨⟨s_iconst dX12_runsTo_11 (by decide +kernel), s_mo_push _ _⟩, (List.forall_mem_cons.mpr ⟨⟨s_icge dX12_runsTo_12 (by decide), s_mo_icge _ _⟩, (List.forall_mem_cons.mpr ⟨⟨s_ldAn dX12_runsTo_15 rfl, s_mo_ldA _ _⟩, (List.forall_mem_cons.mpr ⟨⟨s_ldIn dX12_runsTo_16 rfl, s_mo_ldI _ _⟩, (List.forall_mem_cons.mpr ⟨⟨s_ldI dX12_runsTo_17, s_mo_ldI _ _⟩, (List.forall_mem_cons.mpr ⟨⟨s_sV mk_224 mk_163 ok_163 (by decide +kernel) dX12_runsTo_19 w_1604 w_1606 wp_66 (Or.inr ⟨8, _, _, rfl, rfl⟩), s_h0 mk_224⟩, (List.forall_mem_cons.mpr ⟨⟨s_stI dX12_runsTo_22, s_mo_stI _ _⟩, (List.forall_mem_cons.mpr ⟨⟨s_ldI dX12_runsTo_24, s_mo_ldI _ _⟩, (List.forall_mem_cons.mpr ⟨⟨s_iflt dX12_runsTo_26 (by decide), s_mo_iflt _ _⟩, (List.forall_mem_cons.mpr ⟨⟨s_ldIn dX12_runsTo_29 rfl, s_mo_ldI _ _⟩, (List.forall_mem_cons.mpr ⟨⟨s_ldI dX12_runsTo_30, s_mo_ldI _ _⟩, (List.forall_mem_cons.mpr ⟨⟨s_sS mk_224 mk_164 ok_164 (by decide +kernel) dX12_runsTo_32 w_1593 w_1594, s_h0 mk_224⟩, (List.forall_mem_cons.mpr ⟨⟨s_ifne dX12_runsTo_35 (by decide), s_mo_ifne _ _⟩, (List.forall_mem_cons.mpr ⟨⟨s_ldAn dX12_runsTo_38 rfl, s_mo_ldA _ _⟩, (List.forall_mem_cons.mpr ⟨⟨s_ldI dX12_runsTo_39, s_mo_ldI _ _⟩, (List.forall_mem_cons.mpr ⟨⟨s_iconst dX12_runsTo_41 (by decide +kernel), s_mo_push _ _⟩, (List.forall_mem_cons.mpr ⟨⟨s_sV mk_224 mk_158 ok_158 (by decide +kernel) dX12_runsTo_42 w_1469 w_1471 wp_52 (Or.inr ⟨8, _, _, rfl, rfl⟩), s_h0 mk_224⟩, (List.forall_mem_cons.mpr ⟨⟨s_ifgt dX12_runsTo_45 (by decide), s_mo_ifgt _ _⟩, (List.forall_mem_cons.mpr ⟨⟨s_ldIn dX12_runsTo_48 rfl, s_mo_ldI _ _⟩, (List.forall_mem_cons.mpr ⟨⟨s_iconst dX12_runsTo_49 (by decide +kernel), s_mo_push _ _⟩, (List.forall_mem_cons.mpr ⟨⟨s_ldAn dX12_runsTo_50 rfl, s_mo_ldA _ _⟩, (List.forall_mem_cons.mpr ⟨⟨s_ldI dX12_runsTo_51, s_mo_ldI _ _⟩, (List.forall_mem_cons.mpr ⟨⟨s_iconst dX12_runsTo_53 (by decide +kernel), s_mo_push _ _⟩, (List.forall_mem_cons.mpr ⟨⟨s_sV mk_224 mk_158 ok_158 (by decide +kernel) dX12_runsTo_54 w_1469 w_1471 wp_52 (Or.inr ⟨8, _, _, rfl, rfl⟩), s_h0 mk_224⟩, (List.forall_mem_cons.mpr ⟨⟨s_imul dX12_runsTo_57, s_mo_bin _ _⟩, (List.forall_mem_cons.mpr ⟨⟨s_icgt dX12_runsTo_58 (by decide), s_mo_icgt _ _⟩, (List.forall_mem_cons.mpr ⟨⟨s_goto dX12_runsTo_61 (by decide), s_mo_goto _⟩, (fun _ h => absurd h List.not_mem_nil)⟩)⟩)⟩)⟩)⟩)⟩)⟩)⟩)⟩)⟩)⟩)⟩)⟩)⟩)⟩)⟩)⟩)⟩)⟩)⟩)⟩)⟩)⟩)⟩)⟩)⟩)⟩)⟩)⟩)⟩)⟩)⟩)⟩)⟩)
set_option maxRecDepth 20000 in
theorem kb_224_1 : ∀ q ∈ tb_224_1, s_atx 224 yX12_runsTo cX12_runsTo q.1 q.2 := (List.forall_mem_cons.mpr ⟨⟨s_ldAn dX12_runsTo_64 rfl, s_mo_ldA _ _⟩, (List.forall_mem_cons.mpr ⟨⟨s_ldI dX12_runsTo_65, s_mo_ldI _ _⟩, (List.forall_mem_cons.mpr ⟨⟨s_iconst dX12_runsTo_67 (by decide +kernel), s_mo_push _ _⟩, (List.forall_mem_cons.mpr ⟨⟨s_sV mk_224 mk_158 ok_158 (by decide +kernel) dX12_runsTo_68 w_1469 w_1471 wp_52 (Or.inr ⟨8, _, _, rfl, rfl⟩), s_h0 mk_224⟩, (List.forall_mem_cons.mpr ⟨⟨s_ldAn dX12_runsTo_71 rfl, s_mo_ldA _ _⟩, (List.forall_mem_cons.mpr ⟨⟨s_ldIn dX12_runsTo_72 rfl, s_mo_ldI _ _⟩, (List.forall_mem_cons.mpr ⟨⟨s_iconst dX12_runsTo_73 (by decide +kernel), s_mo_push _ _⟩, (List.forall_mem_cons.mpr ⟨⟨s_sV mk_224 mk_158 ok_158 (by decide +kernel) dX12_runsTo_74 w_1469 w_1471 wp_52 (Or.inr ⟨8, _, _, rfl, rfl⟩), s_h0 mk_224⟩, (List.forall_mem_cons.mpr ⟨⟨s_isub dX12_runsTo_77, s_mo_bin _ _⟩, (List.forall_mem_cons.mpr ⟨⟨s_mb w_1536 ws_mb w_mi wc_mb dX12_runsTo_78, s_mo_mb _⟩, (List.forall_mem_cons.mpr ⟨⟨s_stI dX12_runsTo_81, s_mo_stI _ _⟩, (List.forall_mem_cons.mpr ⟨⟨s_ldI dX12_runsTo_83, s_mo_ldI _ _⟩, (List.forall_mem_cons.mpr ⟨⟨s_ldAn dX12_runsTo_85 rfl, s_mo_ldA _ _⟩, (List.forall_mem_cons.mpr ⟨⟨s_getf (ci := 8) (k := 1) rfl (by decide) inX12 w_1222 dX12_runsTo_86, s_mo_getf _ _ _⟩, (List.forall_mem_cons.mpr ⟨⟨s_bipush dX12_runsTo_89 (by decide +kernel), s_mo_push _ _⟩, (List.forall_mem_cons.mpr ⟨⟨s_iald dX12_runsTo_91, s_mo_iald _⟩, (List.forall_mem_cons.mpr ⟨⟨s_iclt dX12_runsTo_92 (by decide), s_mo_iclt _ _⟩, (List.forall_mem_cons.mpr ⟨⟨s_ldI dX12_runsTo_95, s_mo_ldI _ _⟩, (List.forall_mem_cons.mpr ⟨⟨s_iflt dX12_runsTo_97 (by decide), s_mo_iflt _ _⟩, (List.forall_mem_cons.mpr ⟨⟨s_ldI dX12_runsTo_100, s_mo_ldI _ _⟩, (List.forall_mem_cons.mpr ⟨⟨s_ldI dX12_runsTo_102, s_mo_ldI _ _⟩, (List.forall_mem_cons.mpr ⟨⟨s_icgt dX12_runsTo_104 (by decide), s_mo_icgt _ _⟩, (List.forall_mem_cons.mpr ⟨⟨s_goto dX12_runsTo_107 (by decide), s_mo_goto _⟩, (List.forall_mem_cons.mpr ⟨⟨s_ldI dX12_runsTo_110, s_mo_ldI _ _⟩, (List.forall_mem_cons.mpr ⟨⟨s_stI dX12_runsTo_112, s_mo_stI _ _⟩, (List.forall_mem_cons.mpr ⟨⟨s_ldI dX12_runsTo_114, s_mo_ldI _ _⟩, (List.forall_mem_cons.mpr ⟨⟨s_stI dX12_runsTo_116, s_mo_stI _ _⟩, (List.forall_mem_cons.mpr ⟨⟨s_inc dX12_runsTo_118 (by decide +kernel), s_mo_inc _ _ _⟩, (List.forall_mem_cons.mpr ⟨⟨s_goto dX12_runsTo_121 (by decide), s_mo_goto _⟩, (List.forall_mem_cons.mpr ⟨⟨s_ldI dX12_runsTo_124, s_mo_ldI _ _⟩, (List.forall_mem_cons.mpr ⟨s_r1 mk_224 dX12_runsTo_126, (fun _ h => absurd h List.not_mem_nil)⟩)⟩)⟩)⟩)⟩)⟩)⟩)⟩)⟩)⟩)⟩)⟩)⟩)⟩)⟩)⟩)⟩)⟩)⟩)⟩)⟩)⟩)⟩)⟩)⟩)⟩)⟩)⟩)⟩)⟩)⟩)
theorem km_224 : ∀ t ∈ tm_224, s_tok 224 t := (List.forall_mem_cons.mpr ⟨s_lift mk_224 kb_224_0, (List.forall_mem_cons.mpr ⟨s_lift mk_224 kb_224_1, (fun _ h => absurd h List.not_mem_nil)⟩)⟩)
theorem dX12_gets_0 : decode cX12_gets 0 = .ok (.iload_n 2, 1) := by decide +kernel
theorem dX12_gets_1 : decode cX12_gets 1 = .ok (.aload_n 0, 1) := by decide +kernel
theorem dX12_gets_2 : decode cX12_gets 2 = .ok (.iload_n 1, 1) := by decide +kernel
theorem dX12_gets_3 : decode cX12_gets 3 = .ok (.invokevirtual 261, 3) := by decide +kernel
theorem dX12_gets_6 : decode cX12_gets 6 = .ok (.isub, 1) := by decide +kernel
theorem dX12_gets_7 : decode cX12_gets 7 = .ok (.istore_n 3, 1) := by decide +kernel
theorem dX12_gets_8 : decode cX12_gets 8 = .ok (.iload_n 3, 1) := by decide +kernel
theorem dX12_gets_9 : decode cX12_gets 9 = .ok (.ifCond .gt 5, 3) := by decide +kernel
theorem dX12_gets_12 : decode cX12_gets 12 = .ok (.iconst 0, 1) := by decide +kernel
theorem dX12_gets_13 : decode cX12_gets 13 = .ok (.ireturn, 1) := by decide +kernel
theorem dX12_gets_14 : decode cX12_gets 14 = .ok (.aload_n 0, 1) := by decide +kernel
theorem dX12_gets_15 : decode cX12_gets 15 = .ok (.iload_n 1, 1) := by decide +kernel
theorem dX12_gets_16 : decode cX12_gets 16 = .ok (.invokevirtual 243, 3) := by decide +kernel
theorem dX12_gets_19 : decode cX12_gets 19 = .ok (.ifCond .eq 7, 3) := by decide +kernel
theorem dX12_gets_22 : decode cX12_gets 22 = .ok (.iconst 0, 1) := by decide +kernel
theorem dX12_gets_23 : decode cX12_gets 23 = .ok (.goto 6, 3) := by decide +kernel
theorem dX12_gets_26 : decode cX12_gets 26 = .ok (.iconst 1, 1) := by decide +kernel
theorem dX12_gets_27 : decode cX12_gets 27 = .ok (.iload_n 1, 1) := by decide +kernel
theorem dX12_gets_28 : decode cX12_gets 28 = .ok (.ishl, 1) := by decide +kernel
theorem dX12_gets_29 : decode cX12_gets 29 = .ok (.istore 4, 2) := by decide +kernel
theorem dX12_gets_31 : decode cX12_gets 31 = .ok (.iload_n 1, 1) := by decide +kernel
theorem dX12_gets_32 : decode cX12_gets 32 = .ok (.istore 5, 2) := by decide +kernel
theorem dX12_gets_34 : decode cX12_gets 34 = .ok (.iload 5, 2) := by decide +kernel
theorem dX12_gets_36 : decode cX12_gets 36 = .ok (.ifCond .lt 46, 3) := by decide +kernel
theorem dX12_gets_39 : decode cX12_gets 39 = .ok (.aload_n 0, 1) := by decide +kernel
theorem dX12_gets_40 : decode cX12_gets 40 = .ok (.iload 5, 2) := by decide +kernel
theorem dX12_gets_42 : decode cX12_gets 42 = .ok (.iload_n 3, 1) := by decide +kernel
theorem dX12_gets_43 : decode cX12_gets 43 = .ok (.iload 4, 2) := by decide +kernel
theorem dX12_gets_45 : decode cX12_gets 45 = .ok (.invokevirtual 316, 3) := by decide +kernel
theorem dX12_gets_48 : decode cX12_gets 48 = .ok (.istore 5, 2) := by decide +kernel
theorem dX12_gets_50 : decode cX12_gets 50 = .ok (.iload 5, 2) := by decide +kernel
theorem dX12_gets_52 : decode cX12_gets 52 = .ok (.ifCond .ge 6, 3) := by decide +kernel
theorem dX12_gets_55 : decode cX12_gets 55 = .ok (.goto (-21), 3) := by decide +kernel
theorem dX12_gets_58 : decode cX12_gets 58 = .ok (.iload 4, 2) := by decide +kernel
theorem dX12_gets_60 : decode cX12_gets 60 = .ok (.iconst 1, 1) := by decide +kernel
theorem dX12_gets_61 : decode cX12_gets 61 = .ok (.iload 5, 2) := by decide +kernel
theorem dX12_gets_63 : decode cX12_gets 63 = .ok (.ishl, 1) := by decide +kernel
theorem dX12_gets_64 : decode cX12_gets 64 = .ok (.ior, 1) := by decide +kernel
theorem dX12_gets_65 : decode cX12_gets 65 = .ok (.istore 4, 2) := by decide +kernel
theorem dX12_gets_67 : decode cX12_gets 67 = .ok (.iload_n 3, 1) := by decide +kernel
theorem dX12_gets_68 : decode cX12_gets 68 = .ok (.iconst 5, 1) := by decide +kernel
theorem dX12_gets_69 : decode cX12_gets 69 = .ok (.aload_n 0, 1) := by decide +kernel
theorem dX12_gets_70 : decode cX12_gets 70 = .ok (.iload 5, 2) := by decide +kernel
theorem dX12_gets_72 : decode cX12_gets 72 = .ok (.iconst 0, 1) := by decide +kernel
theorem dX12_gets_73 : decode cX12_gets 73 = .ok (.invokevirtual 88, 3) := by decide +kernel
theorem dX12_gets_76 : decode cX12_gets 76 = .ok (.imul, 1) := by decide +kernel
theorem dX12_gets_77 : decode cX12_gets 77 = .ok (.isub, 1) := by decide +kernel
theorem dX12_gets_78 : decode cX12_gets 78 = .ok (.istore_n 3, 1) := by decide +kernel
theorem dX12_gets_79 : decode cX12_gets 79 = .ok (.goto (-45), 3) := by decide +kernel
theorem dX12_gets_82 : decode cX12_gets 82 = .ok (.iload 4, 2) := by decide +kernel
theorem dX12_gets_84 : decode cX12_gets 84 = .ok (.ireturn, 1) := by decide +kernel
set_option maxRecDepth 20000 in
theorem kb_225_0 : ∀ q ∈ tb_225_0, s_atx 225 yX12_gets cX12_gets q.1 q.2 := (List.forall_mem_cons.mpr ⟨⟨s_ldIn dX12_gets_0 rfl, s_mo_ldI _ _⟩, (List.forall_mem_cons.mpr ⟨⟨s_ldAn dX12_gets_1 rfl, s_mo_ldA _ _⟩, (List.forall_mem_cons.mpr ⟨⟨s_ldIn dX12_gets_2 rfl, s_mo_ldI _ _⟩, (List.forall_mem_cons.mpr ⟨⟨s_sV mk_225 mk_192 ok_192 (by decide +kernel) dX12_gets_3 w_1461 w_1463 wp_50 (Or.inr ⟨8, _, _, rfl, rfl⟩), s_h0 mk_225⟩, (List.forall_mem_cons.mpr ⟨⟨s_isub dX12_gets_6, s_mo_bin _ _⟩, (List.forall_mem_cons.mpr ⟨⟨s_stIn dX12_gets_7 rfl, s_mo_stI _ _⟩, (List.forall_mem_cons.mpr ⟨⟨s_ldIn dX12_gets_8 rfl, s_mo_ldI _ _⟩, (List.forall_mem_cons.mpr ⟨⟨s_ifgt dX12_gets_9 (by decide), s_mo_ifgt _ _⟩, (List.forall_mem_cons.mpr ⟨⟨s_iconst dX12_gets_12 (by decide +kernel), s_mo_push _ _⟩, (List.forall_mem_cons.mpr ⟨s_r1 mk_225 dX12_gets_13, (List.forall_mem_cons.mpr ⟨⟨s_ldAn dX12_gets_14 rfl, s_mo_ldA _ _⟩, (List.forall_mem_cons.mpr ⟨⟨s_ldIn dX12_gets_15 rfl, s_mo_ldI _ _⟩, (List.forall_mem_cons.mpr ⟨⟨s_sV mk_225 mk_162 ok_162 (by decide +kernel) dX12_gets_16 w_1465 w_1467 wp_51 (Or.inr ⟨8, _, _, rfl, rfl⟩), s_h0 mk_225⟩, (List.forall_mem_cons.mpr ⟨⟨s_ifeq dX12_gets_19 (by decide), s_mo_ifeq _ _⟩, (List.forall_mem_cons.mpr ⟨⟨s_iconst dX12_gets_22 (by decide +kernel), s_mo_push _ _⟩, (List.forall_mem_cons.mpr ⟨⟨s_goto dX12_gets_23 (by decide), s_mo_goto _⟩, (List.forall_mem_cons.mpr ⟨⟨s_iconst dX12_gets_26 (by decide +kernel), s_mo_push _ _⟩, (List.forall_mem_cons.mpr ⟨⟨s_ldIn dX12_gets_27 rfl, s_mo_ldI _ _⟩, (List.forall_mem_cons.mpr ⟨⟨s_ishl dX12_gets_28, s_mo_bin _ _⟩, (List.forall_mem_cons.mpr ⟨⟨s_stI dX12_gets_29, s_mo_stI _ _⟩, (List.forall_mem_cons.mpr ⟨⟨s_ldIn dX12_gets_31 rfl, s_mo_ldI _ _⟩, (List.forall_mem_cons.mpr ⟨⟨s_stI dX12_gets_32, s_mo_stI _ _⟩, (List.forall_mem_cons.mpr ⟨⟨s_ldI dX12_gets_34, s_mo_ldI _ _⟩, (List.forall_mem_cons.mpr ⟨⟨s_iflt dX12_gets_36 (by decide), s_mo_iflt _ _⟩, (List.forall_mem_cons.mpr ⟨⟨s_ldAn dX12_gets_39 rfl, s_mo_ldA _ _⟩, (List.forall_mem_cons.mpr ⟨⟨s_ldI dX12_gets_40, s_mo_ldI _ _⟩, (List.forall_mem_cons.mpr ⟨⟨s_ldIn dX12_gets_42 rfl, s_mo_ldI _ _⟩, (List.forall_mem_cons.mpr ⟨⟨s_ldI dX12_gets_43, s_mo_ldI _ _⟩, (List.forall_mem_cons.mpr ⟨⟨s_sV mk_225 mk_224 ok_224 (by decide +kernel) dX12_gets_45 w_1616 w_1618 wp_68 (Or.inr ⟨8, _, _, rfl, rfl⟩), s_h0 mk_225⟩, (List.forall_mem_cons.mpr ⟨⟨s_stI dX12_gets_48, s_mo_stI _ _⟩, (List.forall_mem_cons.mpr ⟨⟨s_ldI dX12_gets_50, s_mo_ldI _ _⟩, (List.forall_mem_cons.mpr ⟨⟨s_ifge dX12_gets_52 (by decide), s_mo_ifge _ _⟩, (List.forall_mem_cons.mpr ⟨⟨s_goto dX12_gets_55 (by decide), s_mo_goto _⟩, (List.forall_mem_cons.mpr ⟨⟨s_ldI dX12_gets_58, s_mo_ldI _ _⟩, (List.forall_mem_cons.mpr ⟨⟨s_iconst dX12_gets_60 (by decide +kernel), s_mo_push _ _⟩, (List.forall_mem_cons.mpr ⟨⟨s_ldI dX12_gets_61, s_mo_ldI _ _⟩, (List.forall_mem_cons.mpr ⟨⟨s_ishl dX12_gets_63, s_mo_bin _ _⟩, (fun _ h => absurd h List.not_mem_nil)⟩)⟩)⟩)⟩)⟩)⟩)⟩)⟩)⟩)⟩)⟩)⟩)⟩)⟩)⟩)⟩)⟩)⟩)⟩)⟩)⟩)⟩)⟩)⟩)⟩)⟩)⟩)⟩)⟩)⟩)⟩)⟩)⟩)⟩)⟩)⟩)⟩)
set_option maxRecDepth 20000 in
theorem kb_225_1 : ∀ q ∈ tb_225_1, s_atx 225 yX12_gets cX12_gets q.1 q.2 := (List.forall_mem_cons.mpr ⟨⟨s_ior dX12_gets_64, s_mo_bin _ _⟩, (List.forall_mem_cons.mpr ⟨⟨s_stI dX12_gets_65, s_mo_stI _ _⟩, (List.forall_mem_cons.mpr ⟨⟨s_ldIn dX12_gets_67 rfl, s_mo_ldI _ _⟩, (List.forall_mem_cons.mpr ⟨⟨s_iconst dX12_gets_68 (by decide +kernel), s_mo_push _ _⟩, (List.forall_mem_cons.mpr ⟨⟨s_ldAn dX12_gets_69 rfl, s_mo_ldA _ _⟩, (List.forall_mem_cons.mpr ⟨⟨s_ldI dX12_gets_70, s_mo_ldI _ _⟩, (List.forall_mem_cons.mpr ⟨⟨s_iconst dX12_gets_72 (by decide +kernel), s_mo_push _ _⟩, (List.forall_mem_cons.mpr ⟨⟨s_sV mk_225 mk_158 ok_158 (by decide +kernel) dX12_gets_73 w_1469 w_1471 wp_52 (Or.inr ⟨8, _, _, rfl, rfl⟩), s_h0 mk_225⟩, (List.forall_mem_cons.mpr ⟨⟨s_imul dX12_gets_76, s_mo_bin _ _⟩, (List.forall_mem_cons.mpr ⟨⟨s_isub dX12_gets_77, s_mo_bin _ _⟩, (List.forall_mem_cons.mpr ⟨⟨s_stIn dX12_gets_78 rfl, s_mo_stI _ _⟩, (List.forall_mem_cons.mpr ⟨⟨s_goto dX12_gets_79 (by decide), s_mo_goto _⟩, (List.forall_mem_cons.mpr ⟨⟨s_ldI dX12_gets_82, s_mo_ldI _ _⟩, (List.forall_mem_cons.mpr ⟨s_r1 mk_225 dX12_gets_84, (fun _ h => absurd h List.not_mem_nil)⟩)⟩)⟩)⟩)⟩)⟩)⟩)⟩)⟩)⟩)⟩)⟩)⟩)⟩)
theorem km_225 : ∀ t ∈ tm_225, s_tok 225 t := (List.forall_mem_cons.mpr ⟨s_lift mk_225 kb_225_0, (List.forall_mem_cons.mpr ⟨s_lift mk_225 kb_225_1, (fun _ h => absurd h List.not_mem_nil)⟩)⟩)
theorem dX12_cracks_0 : decode cX12_cracks 0 = .ok (.iconst 0, 1) := by decide +kernel
theorem dX12_cracks_1 : decode cX12_cracks 1 = .ok (.istore_n 2, 1) := by decide +kernel
theorem dX12_cracks_2 : decode cX12_cracks 2 = .ok (.iload_n 2, 1) := by decide +kernel
theorem dX12_cracks_3 : decode cX12_cracks 3 = .ok (.aload_n 0, 1) := by decide +kernel
theorem dX12_cracks_4 : decode cX12_cracks 4 = .ok (.invokevirtual 80, 3) := by decide +kernel
theorem dX12_cracks_7 : decode cX12_cracks 7 = .ok (.if_icmp .ge 31, 3) := by decide +kernel
theorem dX12_cracks_10 : decode cX12_cracks 10 = .ok (.iload_n 1, 1) := by decide +kernel
theorem dX12_cracks_11 : decode cX12_cracks 11 = .ok (.iload_n 2, 1) := by decide +kernel
theorem dX12_cracks_12 : decode cX12_cracks 12 = .ok (.invokestatic 304, 3) := by decide +kernel
theorem dX12_cracks_15 : decode cX12_cracks 15 = .ok (.ifCond .eq 17, 3) := by decide +kernel
theorem dX12_cracks_18 : decode cX12_cracks 18 = .ok (.aload_n 0, 1) := by decide +kernel
theorem dX12_cracks_19 : decode cX12_cracks 19 = .ok (.iload_n 2, 1) := by decide +kernel
theorem dX12_cracks_20 : decode cX12_cracks 20 = .ok (.iconst 3, 1) := by decide +kernel
theorem dX12_cracks_21 : decode cX12_cracks 21 = .ok (.aload_n 0, 1) := by decide +kernel
theorem dX12_cracks_22 : decode cX12_cracks 22 = .ok (.iload_n 2, 1) := by decide +kernel
theorem dX12_cracks_23 : decode cX12_cracks 23 = .ok (.iconst 3, 1) := by decide +kernel
theorem dX12_cracks_24 : decode cX12_cracks 24 = .ok (.invokevirtual 88, 3) := by decide +kernel
theorem dX12_cracks_27 : decode cX12_cracks 27 = .ok (.iconst 1, 1) := by decide +kernel
theorem dX12_cracks_28 : decode cX12_cracks 28 = .ok (.iadd, 1) := by decide +kernel
theorem dX12_cracks_29 : decode cX12_cracks 29 = .ok (.invokevirtual 69, 3) := by decide +kernel
theorem dX12_cracks_32 : decode cX12_cracks 32 = .ok (.iinc 2 1, 3) := by decide +kernel
theorem dX12_cracks_35 : decode cX12_cracks 35 = .ok (.goto (-33), 3) := by decide +kernel
theorem dX12_cracks_38 : decode cX12_cracks 38 = .ok (.return_, 1) := by decide +kernel
set_option maxRecDepth 20000 in
theorem kb_226_0 : ∀ q ∈ tb_226_0, s_atx 226 yX12_cracks cX12_cracks q.1 q.2 := (List.forall_mem_cons.mpr ⟨⟨s_iconst dX12_cracks_0 (by decide +kernel), s_mo_push _ _⟩, (List.forall_mem_cons.mpr ⟨⟨s_stIn dX12_cracks_1 rfl, s_mo_stI _ _⟩, (List.forall_mem_cons.mpr ⟨⟨s_ldIn dX12_cracks_2 rfl, s_mo_ldI _ _⟩, (List.forall_mem_cons.mpr ⟨⟨s_ldAn dX12_cracks_3 rfl, s_mo_ldA _ _⟩, (List.forall_mem_cons.mpr ⟨⟨s_sV mk_226 mk_156 ok_156 (by decide +kernel) dX12_cracks_4 w_1454 w_1456 wp_49 (Or.inr ⟨8, _, _, rfl, rfl⟩), s_h0 mk_226⟩, (List.forall_mem_cons.mpr ⟨⟨s_icge dX12_cracks_7 (by decide), s_mo_icge _ _⟩, (List.forall_mem_cons.mpr ⟨⟨s_ldIn dX12_cracks_10 rfl, s_mo_ldI _ _⟩, (List.forall_mem_cons.mpr ⟨⟨s_ldIn dX12_cracks_11 rfl, s_mo_ldI _ _⟩, (List.forall_mem_cons.mpr ⟨⟨s_sS mk_226 mk_164 ok_164 (by decide +kernel) dX12_cracks_12 w_1593 w_1594, s_h0 mk_226⟩, (List.forall_mem_cons.mpr ⟨⟨s_ifeq dX12_cracks_15 (by decide), s_mo_ifeq _ _⟩, (List.forall_mem_cons.mpr ⟨⟨s_ldAn dX12_cracks_18 rfl, s_mo_ldA _ _⟩, (List.forall_mem_cons.mpr ⟨⟨s_ldIn dX12_cracks_19 rfl, s_mo_ldI _ _⟩, (List.forall_mem_cons.mpr ⟨⟨s_iconst dX12_cracks_20 (by decide +kernel), s_mo_push _ _⟩, (List.forall_mem_cons.mpr ⟨⟨s_ldAn dX12_cracks_21 rfl, s_mo_ldA _ _⟩, (List.forall_mem_cons.mpr ⟨⟨s_ldIn dX12_cracks_22 rfl, s_mo_ldI _ _⟩, (List.forall_mem_cons.mpr ⟨⟨s_iconst dX12_cracks_23 (by decide +kernel), s_mo_push _ _⟩, (List.forall_mem_cons.mpr ⟨⟨s_sV mk_226 mk_158 ok_158 (by decide +kernel) dX12_cracks_24 w_1469 w_1471 wp_52 (Or.inr ⟨8, _, _, rfl, rfl⟩), s_h0 mk_226⟩, (List.forall_mem_cons.mpr ⟨⟨s_iconst dX12_cracks_27 (by decide +kernel), s_mo_push _ _⟩, (List.forall_mem_cons.mpr ⟨⟨s_iadd dX12_cracks_28, s_mo_bin _ _⟩, (List.forall_mem_cons.mpr ⟨⟨s_sV mk_226 mk_159 ok_159 (by decide +kernel) dX12_cracks_29 w_1217 w_1219 wp_24 (Or.inr ⟨8, _, _, rfl, rfl⟩), s_h0 mk_226⟩, (List.forall_mem_cons.mpr ⟨⟨s_inc dX12_cracks_32 (by decide +kernel), s_mo_inc _ _ _⟩, (List.forall_mem_cons.mpr ⟨⟨s_goto dX12_cracks_35 (by decide), s_mo_goto _⟩, (List.forall_mem_cons.mpr ⟨s_r0 mk_226 dX12_cracks_38, (fun _ h => absurd h List.not_mem_nil)⟩)⟩)⟩)⟩)⟩)⟩)⟩)⟩)⟩)⟩)⟩)⟩)⟩)⟩)⟩)⟩)⟩)⟩)⟩)⟩)⟩)⟩)⟩)
theorem km_226 : ∀ t ∈ tm_226, s_tok 226 t := (List.forall_mem_cons.mpr ⟨s_lift mk_226 kb_226_0, (fun _ h => absurd h List.not_mem_nil)⟩)
theorem dX12_would_0 : decode cX12_would 0 = .ok (.aload_n 0, 1) := by decide +kernel
theorem dX12_would_1 : decode cX12_would 1 = .ok (.iconst 0, 1) := by decide +kernel
theorem dX12_would_2 : decode cX12_would 2 = .ok (.putfield 3, 3) := by decide +kernel
theorem dX12_would_5 : decode cX12_would 5 = .ok (.aload_n 0, 1) := by decide +kernel
theorem dX12_would_6 : decode cX12_would 6 = .ok (.aload_n 0, 1) := by decide +kernel
theorem dX12_would_7 : decode cX12_would 7 = .ok (.iload_n 1, 1) := by decide +kernel
theorem dX12_would_8 : decode cX12_would 8 = .ok (.invokevirtual 264, 3) := by decide +kernel
theorem dX12_would_11 : decode cX12_would 11 = .ok (.iconst 1, 1) := by decide +kernel
theorem dX12_would_12 : decode cX12_would 12 = .ok (.invokevirtual 234, 3) := by decide +kernel
theorem dX12_would_15 : decode cX12_would 15 = .ok (.ifCond .ne 27, 3) := by decide +kernel
theorem dX12_would_18 : decode cX12_would 18 = .ok (.aload_n 0, 1) := by decide +kernel
theorem dX12_would_19 : decode cX12_would 19 = .ok (.iload_n 2, 1) := by decide +kernel
theorem dX12_would_20 : decode cX12_would 20 = .ok (.iconst 1, 1) := by decide +kernel
theorem dX12_would_21 : decode cX12_would 21 = .ok (.sipush 999, 3) := by decide +kernel
theorem dX12_would_24 : decode cX12_would 24 = .ok (.invokestatic 84, 3) := by decide +kernel
theorem dX12_would_27 : decode cX12_would 27 = .ok (.ifCond .ne 7, 3) := by decide +kernel
theorem dX12_would_30 : decode cX12_would 30 = .ok (.iconst 1, 1) := by decide +kernel
theorem dX12_would_31 : decode cX12_would 31 = .ok (.goto 4, 3) := by decide +kernel
theorem dX12_would_34 : decode cX12_would 34 = .ok (.iconst 0, 1) := by decide +kernel
theorem dX12_would_35 : decode cX12_would 35 = .ok (.iconst 2, 1) := by decide +kernel
theorem dX12_would_36 : decode cX12_would 36 = .ok (.invokevirtual 234, 3) := by decide +kernel
theorem dX12_would_39 : decode cX12_would 39 = .ok (.ifCond .eq 7, 3) := by decide +kernel
theorem dX12_would_42 : decode cX12_would 42 = .ok (.iconst 0, 1) := by decide +kernel
theorem dX12_would_43 : decode cX12_would 43 = .ok (.goto 9, 3) := by decide +kernel
theorem dX12_would_46 : decode cX12_would 46 = .ok (.aload_n 0, 1) := by decide +kernel
theorem dX12_would_47 : decode cX12_would 47 = .ok (.iload_n 1, 1) := by decide +kernel
theorem dX12_would_48 : decode cX12_would 48 = .ok (.iload_n 2, 1) := by decide +kernel
theorem dX12_would_49 : decode cX12_would 49 = .ok (.invokevirtual 320, 3) := by decide +kernel
theorem dX12_would_52 : decode cX12_would 52 = .ok (.ireturn, 1) := by decide +kernel
set_option maxRecDepth 20000 in
theorem kb_227_0 : ∀ q ∈ tb_227_0, s_atx 227 yX12_would cX12_would q.1 q.2 := (List.forall_mem_cons.mpr ⟨⟨s_ldAn dX12_would_0 rfl, s_mo_ldA _ _⟩, (List.forall_mem_cons.mpr ⟨⟨s_iconst dX12_would_1 (by decide +kernel), s_mo_push _ _⟩, (List.forall_mem_cons.mpr ⟨⟨s_putI (ci := 8) (k := 0) rfl (by decide) inX12 tyX12_ok nmX12 rfl rfl w_1221 dX12_would_2, s_mo_putI _ _ _⟩, (List.forall_mem_cons.mpr ⟨⟨s_ldAn dX12_would_5 rfl, s_mo_ldA _ _⟩, (List.forall_mem_cons.mpr ⟨⟨s_ldAn dX12_would_6 rfl, s_mo_ldA _ _⟩, (List.forall_mem_cons.mpr ⟨⟨s_ldIn dX12_would_7 rfl, s_mo_ldI _ _⟩, (List.forall_mem_cons.mpr ⟨⟨s_sV mk_227 mk_160 ok_160 (by decide +kernel) dX12_would_8 w_1450 w_1452 wp_48 (Or.inr ⟨8, _, _, rfl, rfl⟩), s_h0 mk_227⟩, (List.forall_mem_cons.mpr ⟨⟨s_iconst dX12_would_11 (by decide +kernel), s_mo_push _ _⟩, (List.forall_mem_cons.mpr ⟨⟨s_sV mk_227 mk_149 ok_149 (by decide +kernel) dX12_would_12 w_1438 w_1440 wp_47 (Or.inr ⟨8, _, _, rfl, rfl⟩), s_h0 mk_227⟩, (List.forall_mem_cons.mpr ⟨⟨s_ifne dX12_would_15 (by decide), s_mo_ifne _ _⟩, (List.forall_mem_cons.mpr ⟨⟨s_ldAn dX12_would_18 rfl, s_mo_ldA _ _⟩, (List.forall_mem_cons.mpr ⟨⟨s_ldIn dX12_would_19 rfl, s_mo_ldI _ _⟩, (List.forall_mem_cons.mpr ⟨⟨s_iconst dX12_would_20 (by decide +kernel), s_mo_push _ _⟩, (List.forall_mem_cons.mpr ⟨⟨s_sipush dX12_would_21 (by decide +kernel), s_mo_push _ _⟩, (List.forall_mem_cons.mpr ⟨⟨s_sS mk_227 mk_150 ok_150 (by decide +kernel) dX12_would_24 w_1458 w_1459, s_h0 mk_227⟩, (List.forall_mem_cons.mpr ⟨⟨s_ifne dX12_would_27 (by decide), s_mo_ifne _ _⟩, (List.forall_mem_cons.mpr ⟨⟨s_iconst dX12_would_30 (by decide +kernel), s_mo_push _ _⟩, (List.forall_mem_cons.mpr ⟨⟨s_goto dX12_would_31 (by decide), s_mo_goto _⟩, (List.forall_mem_cons.mpr ⟨⟨s_iconst dX12_would_34 (by decide +kernel), s_mo_push _ _⟩, (List.forall_mem_cons.mpr ⟨⟨s_iconst dX12_would_35 (by decide +kernel), s_mo_push _ _⟩, (List.forall_mem_cons.mpr ⟨⟨s_sV mk_227 mk_149 ok_149 (by decide +kernel) dX12_would_36 w_1438 w_1440 wp_47 (Or.inr ⟨8, _, _, rfl, rfl⟩), s_h0 mk_227⟩, (List.forall_mem_cons.mpr ⟨⟨s_ifeq dX12_would_39 (by decide), s_mo_ifeq _ _⟩, (List.forall_mem_cons.mpr ⟨⟨s_iconst dX12_would_42 (by decide +kernel), s_mo_push _ _⟩, (List.forall_mem_cons.mpr ⟨⟨s_goto dX12_would_43 (by decide), s_mo_goto _⟩, (List.forall_mem_cons.mpr ⟨⟨s_ldAn dX12_would_46 rfl, s_mo_ldA _ _⟩, (List.forall_mem_cons.mpr ⟨⟨s_ldIn dX12_would_47 rfl, s_mo_ldI _ _⟩, (List.forall_mem_cons.mpr ⟨⟨s_ldIn dX12_would_48 rfl, s_mo_ldI _ _⟩, (List.forall_mem_cons.mpr ⟨⟨s_sV mk_227 mk_225 ok_225 (by decide +kernel) dX12_would_49 w_1612 w_1614 wp_67 (Or.inr ⟨8, _, _, rfl, rfl⟩), s_h0 mk_227⟩, (List.forall_mem_cons.mpr ⟨s_r1 mk_227 dX12_would_52, (fun _ h => absurd h List.not_mem_nil)⟩)⟩)⟩)⟩)⟩)⟩)⟩)⟩)⟩)⟩)⟩)⟩)⟩)⟩)⟩)⟩)⟩)⟩)⟩)⟩)⟩)⟩)⟩)⟩)⟩)⟩)⟩)⟩)⟩)
theorem km_227 : ∀ t ∈ tm_227, s_tok 227 t := (List.forall_mem_cons.mpr ⟨s_lift mk_227 kb_227_0, (fun _ h => absurd h List.not_mem_nil)⟩)
theorem dX12_blow_0 : decode cX12_blow 0 = .ok (.aload_n 0, 1) := by decide +kernel
theorem dX12_blow_1 : decode cX12_blow 1 = .ok (.iconst 0, 1) := by decide +kernel
theorem dX12_blow_2 : decode cX12_blow 2 = .ok (.putfield 3, 3) := by decide +kernel
theorem dX12_blow_5 : decode cX12_blow 5 = .ok (.aload_n 0, 1) := by decide +kernel
theorem dX12_blow_6 : decode cX12_blow 6 = .ok (.aload_n 0, 1) := by decide +kernel
theorem dX12_blow_7 : decode cX12_blow 7 = .ok (.iload_n 1, 1) := by decide +kernel
theorem dX12_blow_8 : decode cX12_blow 8 = .ok (.invokevirtual 264, 3) := by decide +kernel
theorem dX12_blow_11 : decode cX12_blow 11 = .ok (.iconst 1, 1) := by decide +kernel
theorem dX12_blow_12 : decode cX12_blow 12 = .ok (.invokevirtual 234, 3) := by decide +kernel
theorem dX12_blow_15 : decode cX12_blow 15 = .ok (.ifCond .ne 27, 3) := by decide +kernel
theorem dX12_blow_18 : decode cX12_blow 18 = .ok (.aload_n 0, 1) := by decide +kernel
theorem dX12_blow_19 : decode cX12_blow 19 = .ok (.iload_n 2, 1) := by decide +kernel
theorem dX12_blow_20 : decode cX12_blow 20 = .ok (.iconst 1, 1) := by decide +kernel
theorem dX12_blow_21 : decode cX12_blow 21 = .ok (.sipush 999, 3) := by decide +kernel
theorem dX12_blow_24 : decode cX12_blow 24 = .ok (.invokestatic 84, 3) := by decide +kernel
theorem dX12_blow_27 : decode cX12_blow 27 = .ok (.ifCond .ne 7, 3) := by decide +kernel
theorem dX12_blow_30 : decode cX12_blow 30 = .ok (.iconst 1, 1) := by decide +kernel
theorem dX12_blow_31 : decode cX12_blow 31 = .ok (.goto 4, 3) := by decide +kernel
theorem dX12_blow_34 : decode cX12_blow 34 = .ok (.iconst 0, 1) := by decide +kernel
theorem dX12_blow_35 : decode cX12_blow 35 = .ok (.iconst 2, 1) := by decide +kernel
theorem dX12_blow_36 : decode cX12_blow 36 = .ok (.invokevirtual 234, 3) := by decide +kernel
theorem dX12_blow_39 : decode cX12_blow 39 = .ok (.ifCond .eq 5, 3) := by decide +kernel
theorem dX12_blow_42 : decode cX12_blow 42 = .ok (.iconst 0, 1) := by decide +kernel
theorem dX12_blow_43 : decode cX12_blow 43 = .ok (.ireturn, 1) := by decide +kernel
theorem dX12_blow_44 : decode cX12_blow 44 = .ok (.aload_n 0, 1) := by decide +kernel
theorem dX12_blow_45 : decode cX12_blow 45 = .ok (.invokevirtual 267, 3) := by decide +kernel
theorem dX12_blow_48 : decode cX12_blow 48 = .ok (.aload_n 0, 1) := by decide +kernel
theorem dX12_blow_49 : decode cX12_blow 49 = .ok (.iload_n 1, 1) := by decide +kernel
theorem dX12_blow_50 : decode cX12_blow 50 = .ok (.iload_n 2, 1) := by decide +kernel
theorem dX12_blow_51 : decode cX12_blow 51 = .ok (.invokevirtual 320, 3) := by decide +kernel
theorem dX12_blow_54 : decode cX12_blow 54 = .ok (.istore_n 3, 1) := by decide +kernel
theorem dX12_blow_55 : decode cX12_blow 55 = .ok (.aload_n 0, 1) := by decide +kernel
theorem dX12_blow_56 : decode cX12_blow 56 = .ok (.iload_n 3, 1) := by decide +kernel
theorem dX12_blow_57 : decode cX12_blow 57 = .ok (.invokevirtual 323, 3) := by decide +kernel
theorem dX12_blow_60 : decode cX12_blow 60 = .ok (.iload_n 3, 1) := by decide +kernel
theorem dX12_blow_61 : decode cX12_blow 61 = .ok (.invokestatic 326, 3) := by decide +kernel
theorem dX12_blow_64 : decode cX12_blow 64 = .ok (.ireturn, 1) := by decide +kernel
set_option maxRecDepth 20000 in
theorem kb_228_0 : ∀ q ∈ tb_228_0, s_atx 228 yX12_blow cX12_blow q.1 q.2 := (List.forall_mem_cons.mpr ⟨⟨s_ldAn dX12_blow_0 rfl, s_mo_ldA _ _⟩, (List.forall_mem_cons.mpr ⟨⟨s_iconst dX12_blow_1 (by decide +kernel), s_mo_push _ _⟩, (List.forall_mem_cons.mpr ⟨⟨s_putI (ci := 8) (k := 0) rfl (by decide) inX12 tyX12_ok nmX12 rfl rfl w_1221 dX12_blow_2, s_mo_putI _ _ _⟩, (List.forall_mem_cons.mpr ⟨⟨s_ldAn dX12_blow_5 rfl, s_mo_ldA _ _⟩, (List.forall_mem_cons.mpr ⟨⟨s_ldAn dX12_blow_6 rfl, s_mo_ldA _ _⟩, (List.forall_mem_cons.mpr ⟨⟨s_ldIn dX12_blow_7 rfl, s_mo_ldI _ _⟩, (List.forall_mem_cons.mpr ⟨⟨s_sV mk_228 mk_160 ok_160 (by decide +kernel) dX12_blow_8 w_1450 w_1452 wp_48 (Or.inr ⟨8, _, _, rfl, rfl⟩), s_h0 mk_228⟩, (List.forall_mem_cons.mpr ⟨⟨s_iconst dX12_blow_11 (by decide +kernel), s_mo_push _ _⟩, (List.forall_mem_cons.mpr ⟨⟨s_sV mk_228 mk_149 ok_149 (by decide +kernel) dX12_blow_12 w_1438 w_1440 wp_47 (Or.inr ⟨8, _, _, rfl, rfl⟩), s_h0 mk_228⟩, (List.forall_mem_cons.mpr ⟨⟨s_ifne dX12_blow_15 (by decide), s_mo_ifne _ _⟩, (List.forall_mem_cons.mpr ⟨⟨s_ldAn dX12_blow_18 rfl, s_mo_ldA _ _⟩, (List.forall_mem_cons.mpr ⟨⟨s_ldIn dX12_blow_19 rfl, s_mo_ldI _ _⟩, (List.forall_mem_cons.mpr ⟨⟨s_iconst dX12_blow_20 (by decide +kernel), s_mo_push _ _⟩, (List.forall_mem_cons.mpr ⟨⟨s_sipush dX12_blow_21 (by decide +kernel), s_mo_push _ _⟩, (List.forall_mem_cons.mpr ⟨⟨s_sS mk_228 mk_150 ok_150 (by decide +kernel) dX12_blow_24 w_1458 w_1459, s_h0 mk_228⟩, (List.forall_mem_cons.mpr ⟨⟨s_ifne dX12_blow_27 (by decide), s_mo_ifne _ _⟩, (List.forall_mem_cons.mpr ⟨⟨s_iconst dX12_blow_30 (by decide +kernel), s_mo_push _ _⟩, (List.forall_mem_cons.mpr ⟨⟨s_goto dX12_blow_31 (by decide), s_mo_goto _⟩, (List.forall_mem_cons.mpr ⟨⟨s_iconst dX12_blow_34 (by decide +kernel), s_mo_push _ _⟩, (List.forall_mem_cons.mpr ⟨⟨s_iconst dX12_blow_35 (by decide +kernel), s_mo_push _ _⟩, (List.forall_mem_cons.mpr ⟨⟨s_sV mk_228 mk_149 ok_149 (by decide +kernel) dX12_blow_36 w_1438 w_1440 wp_47 (Or.inr ⟨8, _, _, rfl, rfl⟩), s_h0 mk_228⟩, (List.forall_mem_cons.mpr ⟨⟨s_ifeq dX12_blow_39 (by decide), s_mo_ifeq _ _⟩, (List.forall_mem_cons.mpr ⟨⟨s_iconst dX12_blow_42 (by decide +kernel), s_mo_push _ _⟩, (List.forall_mem_cons.mpr ⟨s_r1 mk_228 dX12_blow_43, (List.forall_mem_cons.mpr ⟨⟨s_ldAn dX12_blow_44 rfl, s_mo_ldA _ _⟩, (List.forall_mem_cons.mpr ⟨⟨s_sV mk_228 mk_199 ok_199 (by decide +kernel) dX12_blow_45 w_1491 w_1493 wp_54 (Or.inr ⟨8, _, _, rfl, rfl⟩), s_h0 mk_228⟩, (List.forall_mem_cons.mpr ⟨⟨s_ldAn dX12_blow_48 rfl, s_mo_ldA _ _⟩, (List.forall_mem_cons.mpr ⟨⟨s_ldIn dX12_blow_49 rfl, s_mo_ldI _ _⟩, (List.forall_mem_cons.mpr ⟨⟨s_ldIn dX12_blow_50 rfl, s_mo_ldI _ _⟩, (List.forall_mem_cons.mpr ⟨⟨s_sV mk_228 mk_225 ok_225 (by decide +kernel) dX12_blow_51 w_1612 w_1614 wp_67 (Or.inr ⟨8, _, _, rfl, rfl⟩), s_h0 mk_228⟩, (List.forall_mem_cons.mpr ⟨⟨s_stIn dX12_blow_54 rfl, s_mo_stI _ _⟩, (List.forall_mem_cons.mpr ⟨⟨s_ldAn dX12_blow_55 rfl, s_mo_ldA _ _⟩, (List.forall_mem_cons.mpr ⟨⟨s_ldIn dX12_blow_56 rfl, s_mo_ldI _ _⟩, (List.forall_mem_cons.mpr ⟨⟨s_sV mk_228 mk_226 ok_226 (by decide +kernel) dX12_blow_57 w_1624 w_1626 wp_69 (Or.inr ⟨8, _, _, rfl, rfl⟩), s_h0 mk_228⟩, (List.forall_mem_cons.mpr ⟨⟨s_ldIn dX12_blow_60 rfl, s_mo_ldI _ _⟩, (List.forall_mem_cons.mpr ⟨⟨s_sS mk_228 mk_254 ok_254 (by decide +kernel) dX12_blow_61 w_1628 w_422, s_h0 mk_228⟩, (fun _ h => absurd h List.not_mem_nil)⟩)⟩)⟩)⟩)⟩)⟩)⟩)⟩)⟩)⟩)⟩)⟩)⟩)⟩)⟩)⟩)⟩)⟩)⟩)⟩)⟩)⟩)⟩)⟩)⟩)⟩)⟩)⟩)⟩)⟩)⟩)⟩)⟩)⟩)⟩)⟩)
set_option maxRecDepth 20000 in
theorem kb_228_1 : ∀ q ∈ tb_228_1, s_atx 228 yX12_blow cX12_blow q.1 q.2 := (List.forall_mem_cons.mpr ⟨s_r1 mk_228 dX12_blow_64, (fun _ h => absurd h List.not_mem_nil)⟩)
theorem km_228 : ∀ t ∈ tm_228, s_tok 228 t := (List.forall_mem_cons.mpr ⟨s_lift mk_228 kb_228_0, (List.forall_mem_cons.mpr ⟨s_lift mk_228 kb_228_1, (fun _ h => absurd h List.not_mem_nil)⟩)⟩)
theorem dX12_trace_0 : decode cX12_trace 0 = .ok (.aload_n 0, 1) := by decide +kernel
theorem dX12_trace_1 : decode cX12_trace 1 = .ok (.iconst 0, 1) := by decide +kernel
theorem dX12_trace_2 : decode cX12_trace 2 = .ok (.putfield 3, 3) := by decide +kernel
theorem dX12_trace_5 : decode cX12_trace 5 = .ok (.aload_n 0, 1) := by decide +kernel
theorem dX12_trace_6 : decode cX12_trace 6 = .ok (.iload_n 2, 1) := by decide +kernel
theorem dX12_trace_7 : decode cX12_trace 7 = .ok (.iconst 1, 1) := by decide +kernel
theorem dX12_trace_8 : decode cX12_trace 8 = .ok (.sipush 300, 3) := by decide +kernel
theorem dX12_trace_11 : decode cX12_trace 11 = .ok (.invokestatic 84, 3) := by decide +kernel
theorem dX12_trace_14 : decode cX12_trace 14 = .ok (.ifCond .ne 7, 3) := by decide +kernel
theorem dX12_trace_17 : decode cX12_trace 17 = .ok (.iconst 1, 1) := by decide +kernel
theorem dX12_trace_18 : decode cX12_trace 18 = .ok (.goto 4, 3) := by decide +kernel
theorem dX12_trace_21 : decode cX12_trace 21 = .ok (.iconst 0, 1) := by decide +kernel
theorem dX12_trace_22 : decode cX12_trace 22 = .ok (.iconst 1, 1) := by decide +kernel
theorem dX12_trace_23 : decode cX12_trace 23 = .ok (.invokevirtual 234, 3) := by decide +kernel
theorem dX12_trace_26 : decode cX12_trace 26 = .ok (.ifCond .eq 5, 3) := by decide +kernel
theorem dX12_trace_29 : decode cX12_trace 29 = .ok (.iconst 0, 1) := by decide +kernel
theorem dX12_trace_30 : decode cX12_trace 30 = .ok (.ireturn, 1) := by decide +kernel
theorem dX12_trace_31 : decode cX12_trace 31 = .ok (.iload_n 1, 1) := by decide +kernel
theorem dX12_trace_32 : decode cX12_trace 32 = .ok (.aload_n 0, 1) := by decide +kernel
theorem dX12_trace_33 : decode cX12_trace 33 = .ok (.invokevirtual 331, 3) := by decide +kernel
theorem dX12_trace_36 : decode cX12_trace 36 = .ok (.iand, 1) := by decide +kernel
theorem dX12_trace_37 : decode cX12_trace 37 = .ok (.istore 4, 2) := by decide +kernel
theorem dX12_trace_39 : decode cX12_trace 39 = .ok (.iconst 0, 1) := by decide +kernel
theorem dX12_trace_40 : decode cX12_trace 40 = .ok (.istore 5, 2) := by decide +kernel
theorem dX12_trace_42 : decode cX12_trace 42 = .ok (.iconst 0, 1) := by decide +kernel
theorem dX12_trace_43 : decode cX12_trace 43 = .ok (.istore 6, 2) := by decide +kernel
theorem dX12_trace_45 : decode cX12_trace 45 = .ok (.iload 6, 2) := by decide +kernel
theorem dX12_trace_47 : decode cX12_trace 47 = .ok (.aload_n 0, 1) := by decide +kernel
theorem dX12_trace_48 : decode cX12_trace 48 = .ok (.invokevirtual 80, 3) := by decide +kernel
theorem dX12_trace_51 : decode cX12_trace 51 = .ok (.if_icmp .ge 57, 3) := by decide +kernel
theorem dX12_trace_54 : decode cX12_trace 54 = .ok (.iconst 1, 1) := by decide +kernel
theorem dX12_trace_55 : decode cX12_trace 55 = .ok (.istore 7, 2) := by decide +kernel
theorem dX12_trace_57 : decode cX12_trace 57 = .ok (.iload 7, 2) := by decide +kernel
theorem dX12_trace_59 : decode cX12_trace 59 = .ok (.iload_n 2, 1) := by decide +kernel
theorem dX12_trace_60 : decode cX12_trace 60 = .ok (.if_icmp .gt 42, 3) := by decide +kernel
theorem dX12_trace_63 : decode cX12_trace 63 = .ok (.aload_n 0, 1) := by decide +kernel
theorem dX12_trace_64 : decode cX12_trace 64 = .ok (.iload 6, 2) := by decide +kernel
theorem dX12_trace_66 : decode cX12_trace 66 = .ok (.iload 7, 2) := by decide +kernel
theorem dX12_trace_68 : decode cX12_trace 68 = .ok (.invokevirtual 320, 3) := by decide +kernel
theorem dX12_trace_71 : decode cX12_trace 71 = .ok (.iload 4, 2) := by decide +kernel
theorem dX12_trace_73 : decode cX12_trace 73 = .ok (.if_icmp .eq 6, 3) := by decide +kernel
theorem dX12_trace_76 : decode cX12_trace 76 = .ok (.goto 20, 3) := by decide +kernel
theorem dX12_trace_79 : decode cX12_trace 79 = .ok (.iload_n 3, 1) := by decide +kernel
theorem dX12_trace_80 : decode cX12_trace 80 = .ok (.ifCond .eq 13, 3) := by decide +kernel
theorem dX12_trace_83 : decode cX12_trace 83 = .ok (.sipush 1000, 3) := by decide +kernel
theorem dX12_trace_86 : decode cX12_trace 86 = .ok (.iload 6, 2) := by decide +kernel
theorem dX12_trace_88 : decode cX12_trace 88 = .ok (.imul, 1) := by decide +kernel
theorem dX12_trace_89 : decode cX12_trace 89 = .ok (.iload 7, 2) := by decide +kernel
theorem dX12_trace_91 : decode cX12_trace 91 = .ok (.iadd, 1) := by decide +kernel
theorem dX12_trace_92 : decode cX12_trace 92 = .ok (.ireturn, 1) := by decide +kernel
theorem dX12_trace_93 : decode cX12_trace 93 = .ok (.iinc 5 1, 3) := by decide +kernel
theorem dX12_trace_96 : decode cX12_trace 96 = .ok (.iinc 7 1, 3) := by decide +kernel
theorem dX12_trace_99 : decode cX12_trace 99 = .ok (.goto (-42), 3) := by decide +kernel
theorem dX12_trace_102 : decode cX12_trace 102 = .ok (.iinc 6 1, 3) := by decide +kernel
theorem dX12_trace_105 : decode cX12_trace 105 = .ok (.goto (-60), 3) := by decide +kernel
theorem dX12_trace_108 : decode cX12_trace 108 = .ok (.iload_n 3, 1) := by decide +kernel
theorem dX12_trace_109 : decode cX12_trace 109 = .ok (.ifCond .eq 7, 3) := by decide +kernel
theorem dX12_trace_112 : decode cX12_trace 112 = .ok (.iconst (-1), 1) := by decide +kernel
theorem dX12_trace_113 : decode cX12_trace 113 = .ok (.goto 5, 3) := by decide +kernel
theorem dX12_trace_116 : decode cX12_trace 116 = .ok (.iload 5, 2) := by decide +kernel
theorem dX12_trace_118 : decode cX12_trace 118 = .ok (.ireturn, 1) := by decide +kernel
set_option maxRecDepth 20000 in
theorem kb_229_0 : ∀ q ∈ tb_229_0, s_atx 229 yX12_trace cX12_trace q.1 q.2 := (List.forall_mem_cons.mpr ⟨⟨s_ldAn dX12_trace_0 rfl, s_mo_ldA _ _⟩, (List.forall_mem_cons.mpr ⟨⟨s_iconst dX12_trace_1 (by decide +kernel), s_mo_push _ _⟩, (List.forall_mem_cons.mpr ⟨⟨s_putI (ci := 8) (k := 0) rfl (by decide) inX12 tyX12_ok nmX12 rfl rfl w_1221 dX12_trace_2, s_mo_putI _ _ _⟩, (List.forall_mem_cons.mpr ⟨⟨s_ldAn dX12_trace_5 rfl, s_mo_ldA _ _⟩, (List.forall_mem_cons.mpr ⟨⟨s_ldIn dX12_trace_6 rfl, s_mo_ldI _ _⟩, (List.forall_mem_cons.mpr ⟨⟨s_iconst dX12_trace_7 (by decide +kernel), s_mo_push _ _⟩, (List.forall_mem_cons.mpr ⟨⟨s_sipush dX12_trace_8 (by decide +kernel), s_mo_push _ _⟩, (List.forall_mem_cons.mpr ⟨⟨s_sS mk_229 mk_150 ok_150 (by decide +kernel) dX12_trace_11 w_1458 w_1459, s_h0 mk_229⟩, (List.forall_mem_cons.mpr ⟨⟨s_ifne dX12_trace_14 (by decide), s_mo_ifne _ _⟩, (List.forall_mem_cons.mpr ⟨⟨s_iconst dX12_trace_17 (by decide +kernel), s_mo_push _ _⟩, (List.forall_mem_cons.mpr ⟨⟨s_goto dX12_trace_18 (by decide), s_mo_goto _⟩, (List.forall_mem_cons.mpr ⟨⟨s_iconst dX12_trace_21 (by decide +kernel), s_mo_push _ _⟩, (List.forall_mem_cons.mpr ⟨⟨s_iconst dX12_trace_22 (by decide +kernel), s_mo_push _ _⟩, (List.forall_mem_cons.mpr ⟨⟨s_sV mk_229 mk_149 ok_149 (by decide +kernel) dX12_trace_23 w_1438 w_1440 wp_47 (Or.inr ⟨8, _, _, rfl, rfl⟩), s_h0 mk_229⟩, (List.forall_mem_cons.mpr ⟨⟨s_ifeq dX12_trace_26 (by decide), s_mo_ifeq _ _⟩, (List.forall_mem_cons.mpr ⟨⟨s_iconst dX12_trace_29 (by decide +kernel), s_mo_push _ _⟩, (List.forall_mem_cons.mpr ⟨s_r1 mk_229 dX12_trace_30, (List.forall_mem_cons.mpr ⟨⟨s_ldIn dX12_trace_31 rfl, s_mo_ldI _ _⟩, (List.forall_mem_cons.mpr ⟨⟨s_ldAn dX12_trace_32 rfl, s_mo_ldA _ _⟩, (List.forall_mem_cons.mpr ⟨⟨s_sV mk_229 mk_157 ok_157 (by decide +kernel) dX12_trace_33 w_1633 w_1635 wp_70 (Or.inr ⟨8, _, _, rfl, rfl⟩), s_h0 mk_229⟩, (List.forall_mem_cons.mpr ⟨⟨s_iand dX12_trace_36, s_mo_bin _ _⟩, (List.forall_mem_cons.mpr ⟨⟨s_stI dX12_trace_37, s_mo_stI _ _⟩, (List.forall_mem_cons.mpr ⟨⟨s_iconst dX12_trace_39 (by decide +kernel), s_mo_push _ _⟩, (List.forall_mem_cons.mpr ⟨⟨s_stI dX12_trace_40, s_mo_stI _ _⟩, (List.forall_mem_cons.mpr ⟨⟨s_iconst dX12_trace_42 (by decide +kernel), s_mo_push _ _⟩, (List.forall_mem_cons.mpr ⟨⟨s_stI dX12_trace_43, s_mo_stI _ _⟩, (List.forall_mem_cons.mpr ⟨⟨s_ldI dX12_trace_45, s_mo_ldI _ _⟩, (List.forall_mem_cons.mpr ⟨⟨s_ldAn dX12_trace_47 rfl, s_mo_ldA _ _⟩, (List.forall_mem_cons.mpr ⟨⟨s_sV mk_229 mk_156 ok_156 (by decide +kernel) dX12_trace_48 w_1454 w_1456 wp_49 (Or.inr ⟨8, _, _, rfl, rfl⟩), s_h0 mk_229⟩, (List.forall_mem_cons.mpr ⟨⟨s_icge dX12_trace_51 (by decide), s_mo_icge _ _⟩, (List.forall_mem_cons.mpr ⟨⟨s_iconst dX12_trace_54 (by decide +kernel), s_mo_push _ _⟩, (List.forall_mem_cons.mpr ⟨⟨s_stI dX12_trace_55, s_mo_stI _ _⟩, (List.forall_mem_cons.mpr ⟨⟨s_ldI dX12_trace_57, s_mo_ldI _ _⟩, (List.forall_mem_cons.mpr ⟨⟨s_ldIn dX12_trace_59 rfl, s_mo_ldI _ _⟩, (List.forall_mem_cons.mpr ⟨⟨s_icgt dX12_trace_60 (by decide), s_mo_icgt _ _⟩, (List.forall_mem_cons.mpr ⟨⟨s_ldAn dX12_trace_63 rfl, s_mo_ldA _ _⟩, (fun _ h => absurd h List.not_mem_nil)⟩)⟩)⟩)⟩)⟩)⟩)⟩)⟩)⟩)⟩)⟩)⟩)⟩)⟩)⟩)⟩)⟩)⟩)⟩)⟩)⟩)⟩)⟩)⟩)⟩)⟩)⟩)⟩)⟩)⟩)⟩)⟩)⟩)⟩)⟩)⟩)
set_option maxRecDepth 20000 in
theorem kb_229_1 : ∀ q ∈ tb_229_1, s_atx 229 yX12_trace cX12_trace q.1 q.2 := (List.forall_mem_cons.mpr ⟨⟨s_ldI dX12_trace_64, s_mo_ldI _ _⟩, (List.forall_mem_cons.mpr ⟨⟨s_ldI dX12_trace_66, s_mo_ldI _ _⟩, (List.forall_mem_cons.mpr ⟨⟨s_sV mk_229 mk_225 ok_225 (by decide +kernel) dX12_trace_68 w_1612 w_1614 wp_67 (Or.inr ⟨8, _, _, rfl, rfl⟩), s_h0 mk_229⟩, (List.forall_mem_cons.mpr ⟨⟨s_ldI dX12_trace_71, s_mo_ldI _ _⟩, (List.forall_mem_cons.mpr ⟨⟨s_iceq dX12_trace_73 (by decide), s_mo_iceq _ _⟩, (List.forall_mem_cons.mpr ⟨⟨s_goto dX12_trace_76 (by decide), s_mo_goto _⟩, (List.forall_mem_cons.mpr ⟨⟨s_ldIn dX12_trace_79 rfl, s_mo_ldI _ _⟩, (List.forall_mem_cons.mpr ⟨⟨s_ifeq dX12_trace_80 (by decide), s_mo_ifeq _ _⟩, (List.forall_mem_cons.mpr ⟨⟨s_sipush dX12_trace_83 (by decide +kernel), s_mo_push _ _⟩, (List.forall_mem_cons.mpr ⟨⟨s_ldI dX12_trace_86, s_mo_ldI _ _⟩, (List.forall_mem_cons.mpr ⟨⟨s_imul dX12_trace_88, s_mo_bin _ _⟩, (List.forall_mem_cons.mpr ⟨⟨s_ldI dX12_trace_89, s_mo_ldI _ _⟩, (List.forall_mem_cons.mpr ⟨⟨s_iadd dX12_trace_91, s_mo_bin _ _⟩, (List.forall_mem_cons.mpr ⟨s_r1 mk_229 dX12_trace_92, (List.forall_mem_cons.mpr ⟨⟨s_inc dX12_trace_93 (by decide +kernel), s_mo_inc _ _ _⟩, (List.forall_mem_cons.mpr ⟨⟨s_inc dX12_trace_96 (by decide +kernel), s_mo_inc _ _ _⟩, (List.forall_mem_cons.mpr ⟨⟨s_goto dX12_trace_99 (by decide), s_mo_goto _⟩, (List.forall_mem_cons.mpr ⟨⟨s_inc dX12_trace_102 (by decide +kernel), s_mo_inc _ _ _⟩, (List.forall_mem_cons.mpr ⟨⟨s_goto dX12_trace_105 (by decide), s_mo_goto _⟩, (List.forall_mem_cons.mpr ⟨⟨s_ldIn dX12_trace_108 rfl, s_mo_ldI _ _⟩, (List.forall_mem_cons.mpr ⟨⟨s_ifeq dX12_trace_109 (by decide), s_mo_ifeq _ _⟩, (List.forall_mem_cons.mpr ⟨⟨s_iconst dX12_trace_112 (by decide +kernel), s_mo_push _ _⟩, (List.forall_mem_cons.mpr ⟨⟨s_goto dX12_trace_113 (by decide), s_mo_goto _⟩, (List.forall_mem_cons.mpr ⟨⟨s_ldI dX12_trace_116, s_mo_ldI _ _⟩, (List.forall_mem_cons.mpr ⟨s_r1 mk_229 dX12_trace_118, (fun _ h => absurd h List.not_mem_nil)⟩)⟩)⟩)⟩)⟩)⟩)⟩)⟩)⟩)⟩)⟩)⟩)⟩)⟩)⟩)⟩)⟩)⟩)⟩)⟩)⟩)⟩)⟩)⟩)⟩)
theorem km_229 : ∀ t ∈ tm_229, s_tok 229 t := (List.forall_mem_cons.mpr ⟨s_lift mk_229 kb_229_0, (List.forall_mem_cons.mpr ⟨s_lift mk_229 kb_229_1, (fun _ h => absurd h List.not_mem_nil)⟩)⟩)
theorem dX12_held_0 : decode cX12_held 0 = .ok (.iconst 0, 1) := by decide +kernel
theorem dX12_held_1 : decode cX12_held 1 = .ok (.istore_n 3, 1) := by decide +kernel
theorem dX12_held_2 : decode cX12_held 2 = .ok (.iconst 0, 1) := by decide +kernel
theorem dX12_held_3 : decode cX12_held 3 = .ok (.istore 4, 2) := by decide +kernel
theorem dX12_held_5 : decode cX12_held 5 = .ok (.iload 4, 2) := by decide +kernel
theorem dX12_held_7 : decode cX12_held 7 = .ok (.aload_n 0, 1) := by decide +kernel
theorem dX12_held_8 : decode cX12_held 8 = .ok (.invokevirtual 80, 3) := by decide +kernel
theorem dX12_held_11 : decode cX12_held 11 = .ok (.if_icmp .ge 34, 3) := by decide +kernel
theorem dX12_held_14 : decode cX12_held 14 = .ok (.iload_n 3, 1) := by decide +kernel
theorem dX12_held_15 : decode cX12_held 15 = .ok (.aload_n 0, 1) := by decide +kernel
theorem dX12_held_16 : decode cX12_held 16 = .ok (.iload 4, 2) := by decide +kernel
theorem dX12_held_18 : decode cX12_held 18 = .ok (.iload_n 1, 1) := by decide +kernel
theorem dX12_held_19 : decode cX12_held 19 = .ok (.bipush 24, 2) := by decide +kernel
theorem dX12_held_21 : decode cX12_held 21 = .ok (.irem, 1) := by decide +kernel
theorem dX12_held_22 : decode cX12_held 22 = .ok (.iload_n 2, 1) := by decide +kernel
theorem dX12_held_23 : decode cX12_held 23 = .ok (.invokevirtual 273, 3) := by decide +kernel
theorem dX12_held_26 : decode cX12_held 26 = .ok (.ifCond .eq 10, 3) := by decide +kernel
theorem dX12_held_29 : decode cX12_held 29 = .ok (.iconst 1, 1) := by decide +kernel
theorem dX12_held_30 : decode cX12_held 30 = .ok (.iload 4, 2) := by decide +kernel
theorem dX12_held_32 : decode cX12_held 32 = .ok (.ishl, 1) := by decide +kernel
theorem dX12_held_33 : decode cX12_held 33 = .ok (.goto 4, 3) := by decide +kernel
theorem dX12_held_36 : decode cX12_held 36 = .ok (.iconst 0, 1) := by decide +kernel
theorem dX12_held_37 : decode cX12_held 37 = .ok (.ior, 1) := by decide +kernel
theorem dX12_held_38 : decode cX12_held 38 = .ok (.istore_n 3, 1) := by decide +kernel
theorem dX12_held_39 : decode cX12_held 39 = .ok (.iinc 4 1, 3) := by decide +kernel
theorem dX12_held_42 : decode cX12_held 42 = .ok (.goto (-37), 3) := by decide +kernel
theorem dX12_held_45 : decode cX12_held 45 = .ok (.iload_n 3, 1) := by decide +kernel
theorem dX12_held_46 : decode cX12_held 46 = .ok (.ireturn, 1) := by decide +kernel
set_option maxRecDepth 20000 in
theorem kb_230_0 : ∀ q ∈ tb_230_0, s_atx 230 yX12_held cX12_held q.1 q.2 := (List.forall_mem_cons.mpr ⟨⟨s_iconst dX12_held_0 (by decide +kernel), s_mo_push _ _⟩, (List.forall_mem_cons.mpr ⟨⟨s_stIn dX12_held_1 rfl, s_mo_stI _ _⟩, (List.forall_mem_cons.mpr ⟨⟨s_iconst dX12_held_2 (by decide +kernel), s_mo_push _ _⟩, (List.forall_mem_cons.mpr ⟨⟨s_stI dX12_held_3, s_mo_stI _ _⟩, (List.forall_mem_cons.mpr ⟨⟨s_ldI dX12_held_5, s_mo_ldI _ _⟩, (List.forall_mem_cons.mpr ⟨⟨s_ldAn dX12_held_7 rfl, s_mo_ldA _ _⟩, (List.forall_mem_cons.mpr ⟨⟨s_sV mk_230 mk_156 ok_156 (by decide +kernel) dX12_held_8 w_1454 w_1456 wp_49 (Or.inr ⟨8, _, _, rfl, rfl⟩), s_h0 mk_230⟩, (List.forall_mem_cons.mpr ⟨⟨s_icge dX12_held_11 (by decide), s_mo_icge _ _⟩, (List.forall_mem_cons.mpr ⟨⟨s_ldIn dX12_held_14 rfl, s_mo_ldI _ _⟩, (List.forall_mem_cons.mpr ⟨⟨s_ldAn dX12_held_15 rfl, s_mo_ldA _ _⟩, (List.forall_mem_cons.mpr ⟨⟨s_ldI dX12_held_16, s_mo_ldI _ _⟩, (List.forall_mem_cons.mpr ⟨⟨s_ldIn dX12_held_18 rfl, s_mo_ldI _ _⟩, (List.forall_mem_cons.mpr ⟨⟨s_bipush dX12_held_19 (by decide +kernel), s_mo_push _ _⟩, (List.forall_mem_cons.mpr ⟨⟨s_irem dX12_held_21, s_mo_rem _⟩, (List.forall_mem_cons.mpr ⟨⟨s_ldIn dX12_held_22 rfl, s_mo_ldI _ _⟩, (List.forall_mem_cons.mpr ⟨⟨s_sV mk_230 mk_196 ok_196 (by decide +kernel) dX12_held_23 w_1517 w_1519 wp_56 (Or.inr ⟨8, _, _, rfl, rfl⟩), s_h0 mk_230⟩, (List.forall_mem_cons.mpr ⟨⟨s_ifeq dX12_held_26 (by decide), s_mo_ifeq _ _⟩, (List.forall_mem_cons.mpr ⟨⟨s_iconst dX12_held_29 (by decide +kernel), s_mo_push _ _⟩, (List.forall_mem_cons.mpr ⟨⟨s_ldI dX12_held_30, s_mo_ldI _ _⟩, (List.forall_mem_cons.mpr ⟨⟨s_ishl dX12_held_32, s_mo_bin _ _⟩, (List.forall_mem_cons.mpr ⟨⟨s_goto dX12_held_33 (by decide), s_mo_goto _⟩, (List.forall_mem_cons.mpr ⟨⟨s_iconst dX12_held_36 (by decide +kernel), s_mo_push _ _⟩, (List.forall_mem_cons.mpr ⟨⟨s_ior dX12_held_37, s_mo_bin _ _⟩, (List.forall_mem_cons.mpr ⟨⟨s_stIn dX12_held_38 rfl, s_mo_stI _ _⟩, (List.forall_mem_cons.mpr ⟨⟨s_inc dX12_held_39 (by decide +kernel), s_mo_inc _ _ _⟩, (List.forall_mem_cons.mpr ⟨⟨s_goto dX12_held_42 (by decide), s_mo_goto _⟩, (List.forall_mem_cons.mpr ⟨⟨s_ldIn dX12_held_45 rfl, s_mo_ldI _ _⟩, (List.forall_mem_cons.mpr ⟨s_r1 mk_230 dX12_held_46, (fun _ h => absurd h List.not_mem_nil)⟩)⟩)⟩)⟩)⟩)⟩)⟩)⟩)⟩)⟩)⟩)⟩)⟩)⟩)⟩)⟩)⟩)⟩)⟩)⟩)⟩)⟩)⟩)⟩)⟩)⟩)⟩)⟩)
theorem km_230 : ∀ t ∈ tm_230, s_tok 230 t := (List.forall_mem_cons.mpr ⟨s_lift mk_230 kb_230_0, (fun _ h => absurd h List.not_mem_nil)⟩)
theorem dX12_around_0 : decode cX12_around 0 = .ok (.iload_n 1, 1) := by decide +kernel
theorem dX12_around_1 : decode cX12_around 1 = .ok (.istore_n 2, 1) := by decide +kernel
theorem dX12_around_2 : decode cX12_around 2 = .ok (.iconst 0, 1) := by decide +kernel
theorem dX12_around_3 : decode cX12_around 3 = .ok (.istore_n 3, 1) := by decide +kernel
theorem dX12_around_4 : decode cX12_around 4 = .ok (.iload_n 3, 1) := by decide +kernel
theorem dX12_around_5 : decode cX12_around 5 = .ok (.aload_n 0, 1) := by decide +kernel
theorem dX12_around_6 : decode cX12_around 6 = .ok (.invokevirtual 80, 3) := by decide +kernel
theorem dX12_around_9 : decode cX12_around 9 = .ok (.if_icmp .ge 58, 3) := by decide +kernel
theorem dX12_around_12 : decode cX12_around 12 = .ok (.iconst 0, 1) := by decide +kernel
theorem dX12_around_13 : decode cX12_around 13 = .ok (.istore 4, 2) := by decide +kernel
theorem dX12_around_15 : decode cX12_around 15 = .ok (.iload 4, 2) := by decide +kernel
theorem dX12_around_17 : decode cX12_around 17 = .ok (.iconst 4, 1) := by decide +kernel
theorem dX12_around_18 : decode cX12_around 18 = .ok (.if_icmp .ge 43, 3) := by decide +kernel
theorem dX12_around_21 : decode cX12_around 21 = .ok (.iload_n 1, 1) := by decide +kernel
theorem dX12_around_22 : decode cX12_around 22 = .ok (.iload_n 3, 1) := by decide +kernel
theorem dX12_around_23 : decode cX12_around 23 = .ok (.invokestatic 304, 3) := by decide +kernel
theorem dX12_around_26 : decode cX12_around 26 = .ok (.ifCond .eq 35, 3) := by decide +kernel
theorem dX12_around_29 : decode cX12_around 29 = .ok (.iload_n 2, 1) := by decide +kernel
theorem dX12_around_30 : decode cX12_around 30 = .ok (.aload_n 0, 1) := by decide +kernel
theorem dX12_around_31 : decode cX12_around 31 = .ok (.iload_n 3, 1) := by decide +kernel
theorem dX12_around_32 : decode cX12_around 32 = .ok (.iload 4, 2) := by decide +kernel
theorem dX12_around_34 : decode cX12_around 34 = .ok (.invokevirtual 313, 3) := by decide +kernel
theorem dX12_around_37 : decode cX12_around 37 = .ok (.ifCond .ge 7, 3) := by decide +kernel
theorem dX12_around_40 : decode cX12_around 40 = .ok (.iconst 0, 1) := by decide +kernel
theorem dX12_around_41 : decode cX12_around 41 = .ok (.goto 12, 3) := by decide +kernel
theorem dX12_around_44 : decode cX12_around 44 = .ok (.iconst 1, 1) := by decide +kernel
theorem dX12_around_45 : decode cX12_around 45 = .ok (.aload_n 0, 1) := by decide +kernel
theorem dX12_around_46 : decode cX12_around 46 = .ok (.iload_n 3, 1) := by decide +kernel
theorem dX12_around_47 : decode cX12_around 47 = .ok (.iload 4, 2) := by decide +kernel
theorem dX12_around_49 : decode cX12_around 49 = .ok (.invokevirtual 313, 3) := by decide +kernel
theorem dX12_around_52 : decode cX12_around 52 = .ok (.ishl, 1) := by decide +kernel
theorem dX12_around_53 : decode cX12_around 53 = .ok (.ior, 1) := by decide +kernel
theorem dX12_around_54 : decode cX12_around 54 = .ok (.istore_n 2, 1) := by decide +kernel
theorem dX12_around_55 : decode cX12_around 55 = .ok (.iinc 4 1, 3) := by decide +kernel
theorem dX12_around_58 : decode cX12_around 58 = .ok (.goto (-43), 3) := by decide +kernel
theorem dX12_around_61 : decode cX12_around 61 = .ok (.iinc 3 1, 3) := by decide +kernel
theorem dX12_around_64 : decode cX12_around 64 = .ok (.goto (-60), 3) := by decide +kernel
theorem dX12_around_67 : decode cX12_around 67 = .ok (.iload_n 2, 1) := by decide +kernel
theorem dX12_around_68 : decode cX12_around 68 = .ok (.ireturn, 1) := by decide +kernel
set_option maxRecDepth 20000 in
theorem kb_231_0 : ∀ q ∈ tb_231_0, s_atx 231 yX12_around cX12_around q.1 q.2 := (List.forall_mem_cons.mpr ⟨⟨s_ldIn dX12_around_0 rfl, s_mo_ldI _ _⟩, (List.forall_mem_cons.mpr ⟨⟨s_stIn dX12_around_1 rfl, s_mo_stI _ _⟩, (List.forall_mem_cons.mpr ⟨⟨s_iconst dX12_around_2 (by decide +kernel), s_mo_push _ _⟩, (List.forall_mem_cons.mpr ⟨⟨s_stIn dX12_around_3 rfl, s_mo_stI _ _⟩, (List.forall_mem_cons.mpr ⟨⟨s_ldIn dX12_around_4 rfl, s_mo_ldI _ _⟩, (List.forall_mem_cons.mpr ⟨⟨s_ldAn dX12_around_5 rfl, s_mo_ldA _ _⟩, (List.forall_mem_cons.mpr ⟨⟨s_sV mk_231 mk_156 ok_156 (by decide +kernel) dX12_around_6 w_1454 w_1456 wp_49 (Or.inr ⟨8, _, _, rfl, rfl⟩), s_h0 mk_231⟩, (List.forall_mem_cons.mpr ⟨⟨s_icge dX12_around_9 (by decide), s_mo_icge _ _⟩, (List.forall_mem_cons.mpr ⟨⟨s_iconst dX12_around_12 (by decide +kernel), s_mo_push _ _⟩, (List.forall_mem_cons.mpr ⟨⟨s_stI dX12_around_13, s_mo_stI _ _⟩, (List.forall_mem_cons.mpr ⟨⟨s_ldI dX12_around_15, s_mo_ldI _ _⟩, (List.forall_mem_cons.mpr ⟨⟨s_iconst dX12_around_17 (by decide +kernel), s_mo_push _ _⟩, (List.forall_mem_cons.mpr ⟨⟨s_icge dX12_around_18 (by decide), s_mo_icge _ _⟩, (List.forall_mem_cons.mpr ⟨⟨s_ldIn dX12_around_21 rfl, s_mo_ldI _ _⟩, (List.forall_mem_cons.mpr ⟨⟨s_ldIn dX12_around_22 rfl, s_mo_ldI _ _⟩, (List.forall_mem_cons.mpr ⟨⟨s_sS mk_231 mk_164 ok_164 (by decide +kernel) dX12_around_23 w_1593 w_1594, s_h0 mk_231⟩, (List.forall_mem_cons.mpr ⟨⟨s_ifeq dX12_around_26 (by decide), s_mo_ifeq _ _⟩, (List.forall_mem_cons.mpr ⟨⟨s_ldIn dX12_around_29 rfl, s_mo_ldI _ _⟩, (List.forall_mem_cons.mpr ⟨⟨s_ldAn dX12_around_30 rfl, s_mo_ldA _ _⟩, (List.forall_mem_cons.mpr ⟨⟨s_ldIn dX12_around_31 rfl, s_mo_ldI _ _⟩, (List.forall_mem_cons.mpr ⟨⟨s_ldI dX12_around_32, s_mo_ldI _ _⟩, (List.forall_mem_cons.mpr ⟨⟨s_sV mk_231 mk_163 ok_163 (by decide +kernel) dX12_around_34 w_1604 w_1606 wp_66 (Or.inr ⟨8, _, _, rfl, rfl⟩), s_h0 mk_231⟩, (List.forall_mem_cons.mpr ⟨⟨s_ifge dX12_around_37 (by decide), s_mo_ifge _ _⟩, (List.forall_mem_cons.mpr ⟨⟨s_iconst dX12_around_40 (by decide +kernel), s_mo_push _ _⟩, (List.forall_mem_cons.mpr ⟨⟨s_goto dX12_around_41 (by decide), s_mo_goto _⟩, (List.forall_mem_cons.mpr ⟨⟨s_iconst dX12_around_44 (by decide +kernel), s_mo_push _ _⟩, (List.forall_mem_cons.mpr ⟨⟨s_ldAn dX12_around_45 rfl, s_mo_ldA _ _⟩, (List.forall_mem_cons.mpr ⟨⟨s_ldIn dX12_around_46 rfl, s_mo_ldI _ _⟩, (List.forall_mem_cons.mpr ⟨⟨s_ldI dX12_around_47, s_mo_ldI _ _⟩, (List.forall_mem_cons.mpr ⟨⟨s_sV mk_231 mk_163 ok_163 (by decide +kernel) dX12_around_49 w_1604 w_1606 wp_66 (Or.inr ⟨8, _, _, rfl, rfl⟩), s_h0 mk_231⟩, (List.forall_mem_cons.mpr ⟨⟨s_ishl dX12_around_52, s_mo_bin _ _⟩, (List.forall_mem_cons.mpr ⟨⟨s_ior dX12_around_53, s_mo_bin _ _⟩, (List.forall_mem_cons.mpr ⟨⟨s_stIn dX12_around_54 rfl, s_mo_stI _ _⟩, (List.forall_mem_cons.mpr ⟨⟨s_inc dX12_around_55 (by decide +kernel), s_mo_inc _ _ _⟩, (List.forall_mem_cons.mpr ⟨⟨s_goto dX12_around_58 (by decide), s_mo_goto _⟩, (List.forall_mem_cons.mpr ⟨⟨s_inc dX12_around_61 (by decide +kernel), s_mo_inc _ _ _⟩, (fun _ h => absurd h List.not_mem_nil)⟩)⟩)⟩)⟩)⟩)⟩)⟩)⟩)⟩)⟩)⟩)⟩)⟩)⟩)⟩)⟩)⟩)⟩)⟩)⟩)⟩)⟩)⟩)⟩)⟩)⟩)⟩)⟩)⟩)⟩)⟩)⟩)⟩)⟩)⟩)⟩)
set_option maxRecDepth 20000 in
theorem kb_231_1 : ∀ q ∈ tb_231_1, s_atx 231 yX12_around cX12_around q.1 q.2 := (List.forall_mem_cons.mpr ⟨⟨s_goto dX12_around_64 (by decide), s_mo_goto _⟩, (List.forall_mem_cons.mpr ⟨⟨s_ldIn dX12_around_67 rfl, s_mo_ldI _ _⟩, (List.forall_mem_cons.mpr ⟨s_r1 mk_231 dX12_around_68, (fun _ h => absurd h List.not_mem_nil)⟩)⟩)⟩)
theorem km_231 : ∀ t ∈ tm_231, s_tok 231 t := (List.forall_mem_cons.mpr ⟨s_lift mk_231 kb_231_0, (List.forall_mem_cons.mpr ⟨s_lift mk_231 kb_231_1, (fun _ h => absurd h List.not_mem_nil)⟩)⟩)
theorem dX12_hours_0 : decode cX12_hours 0 = .ok (.aload_n 0, 1) := by decide +kernel
theorem dX12_hours_1 : decode cX12_hours 1 = .ok (.getfield 48, 3) := by decide +kernel
theorem dX12_hours_4 : decode cX12_hours 4 = .ok (.iconst 0, 1) := by decide +kernel
theorem dX12_hours_5 : decode cX12_hours 5 = .ok (.aload_n 0, 1) := by decide +kernel
theorem dX12_hours_6 : decode cX12_hours 6 = .ok (.iload_n 3, 1) := by decide +kernel
theorem dX12_hours_7 : decode cX12_hours 7 = .ok (.iload 4, 2) := by decide +kernel
theorem dX12_hours_9 : decode cX12_hours 9 = .ok (.invokevirtual 334, 3) := by decide +kernel
theorem dX12_hours_12 : decode cX12_hours 12 = .ok (.iconst 1, 1) := by decide +kernel
theorem dX12_hours_13 : decode cX12_hours 13 = .ok (.iload_n 1, 1) := by decide +kernel
theorem dX12_hours_14 : decode cX12_hours 14 = .ok (.ishl, 1) := by decide +kernel
theorem dX12_hours_15 : decode cX12_hours 15 = .ok (.iand, 1) := by decide +kernel
theorem dX12_hours_16 : decode cX12_hours 16 = .ok (.iastore, 1) := by decide +kernel
theorem dX12_hours_17 : decode cX12_hours 17 = .ok (.iconst 0, 1) := by decide +kernel
theorem dX12_hours_18 : decode cX12_hours 18 = .ok (.istore 5, 2) := by decide +kernel
theorem dX12_hours_20 : decode cX12_hours 20 = .ok (.iload 5, 2) := by decide +kernel
theorem dX12_hours_22 : decode cX12_hours 22 = .ok (.bipush 48, 2) := by decide +kernel
theorem dX12_hours_24 : decode cX12_hours 24 = .ok (.if_icmp .gt 62, 3) := by decide +kernel
theorem dX12_hours_27 : decode cX12_hours 27 = .ok (.iload 5, 2) := by decide +kernel
theorem dX12_hours_29 : decode cX12_hours 29 = .ok (.ifCond .le 34, 3) := by decide +kernel
theorem dX12_hours_32 : decode cX12_hours 32 = .ok (.aload_n 0, 1) := by decide +kernel
theorem dX12_hours_33 : decode cX12_hours 33 = .ok (.getfield 48, 3) := by decide +kernel
theorem dX12_hours_36 : decode cX12_hours 36 = .ok (.iload 5, 2) := by decide +kernel
theorem dX12_hours_38 : decode cX12_hours 38 = .ok (.aload_n 0, 1) := by decide +kernel
theorem dX12_hours_39 : decode cX12_hours 39 = .ok (.aload_n 0, 1) := by decide +kernel
theorem dX12_hours_40 : decode cX12_hours 40 = .ok (.getfield 48, 3) := by decide +kernel
theorem dX12_hours_43 : decode cX12_hours 43 = .ok (.iload 5, 2) := by decide +kernel
theorem dX12_hours_45 : decode cX12_hours 45 = .ok (.iconst 1, 1) := by decide +kernel
theorem dX12_hours_46 : decode cX12_hours 46 = .ok (.isub, 1) := by decide +kernel
theorem dX12_hours_47 : decode cX12_hours 47 = .ok (.iaload, 1) := by decide +kernel
theorem dX12_hours_48 : decode cX12_hours 48 = .ok (.invokevirtual 337, 3) := by decide +kernel
theorem dX12_hours_51 : decode cX12_hours 51 = .ok (.aload_n 0, 1) := by decide +kernel
theorem dX12_hours_52 : decode cX12_hours 52 = .ok (.iload_n 3, 1) := by decide +kernel
theorem dX12_hours_53 : decode cX12_hours 53 = .ok (.iload 5, 2) := by decide +kernel
theorem dX12_hours_55 : decode cX12_hours 55 = .ok (.iadd, 1) := by decide +kernel
theorem dX12_hours_56 : decode cX12_hours 56 = .ok (.iload 4, 2) := by decide +kernel
theorem dX12_hours_58 : decode cX12_hours 58 = .ok (.invokevirtual 334, 3) := by decide +kernel
theorem dX12_hours_61 : decode cX12_hours 61 = .ok (.iand, 1) := by decide +kernel
theorem dX12_hours_62 : decode cX12_hours 62 = .ok (.iastore, 1) := by decide +kernel
theorem dX12_hours_63 : decode cX12_hours 63 = .ok (.aload_n 0, 1) := by decide +kernel
theorem dX12_hours_64 : decode cX12_hours 64 = .ok (.getfield 48, 3) := by decide +kernel
theorem dX12_hours_67 : decode cX12_hours 67 = .ok (.iload 5, 2) := by decide +kernel
theorem dX12_hours_69 : decode cX12_hours 69 = .ok (.iaload, 1) := by decide +kernel
theorem dX12_hours_70 : decode cX12_hours 70 = .ok (.iload_n 2, 1) := by decide +kernel
theorem dX12_hours_71 : decode cX12_hours 71 = .ok (.invokestatic 304, 3) := by decide +kernel
theorem dX12_hours_74 : decode cX12_hours 74 = .ok (.ifCond .eq 6, 3) := by decide +kernel
theorem dX12_hours_77 : decode cX12_hours 77 = .ok (.iload 5, 2) := by decide +kernel
theorem dX12_hours_79 : decode cX12_hours 79 = .ok (.ireturn, 1) := by decide +kernel
theorem dX12_hours_80 : decode cX12_hours 80 = .ok (.iinc 5 1, 3) := by decide +kernel
theorem dX12_hours_83 : decode cX12_hours 83 = .ok (.goto (-63), 3) := by decide +kernel
theorem dX12_hours_86 : decode cX12_hours 86 = .ok (.iconst (-1), 1) := by decide +kernel
theorem dX12_hours_87 : decode cX12_hours 87 = .ok (.ireturn, 1) := by decide +kernel
set_option maxRecDepth 20000 in
theorem kb_232_0 : ∀ q ∈ tb_232_0, s_atx 232 yX12_hours cX12_hours q.1 q.2 := (List.forall_mem_cons.mpr ⟨⟨s_ldAn dX12_hours_0 rfl, s_mo_ldA _ _⟩, (List.forall_mem_cons.mpr ⟨⟨s_getf (ci := 8) (k := 21) rfl (by decide) inX12 w_1242 dX12_hours_1, s_mo_getf _ _ _⟩, (List.forall_mem_cons.mpr ⟨⟨s_iconst dX12_hours_4 (by decide +kernel), s_mo_push _ _⟩, (List.forall_mem_cons.mpr ⟨⟨s_ldAn dX12_hours_5 rfl, s_mo_ldA _ _⟩, (List.forall_mem_cons.mpr ⟨⟨s_ldIn dX12_hours_6 rfl, s_mo_ldI _ _⟩, (List.forall_mem_cons.mpr ⟨⟨s_ldI dX12_hours_7, s_mo_ldI _ _⟩, (List.forall_mem_cons.mpr ⟨⟨s_sV mk_232 mk_230 ok_230 (by decide +kernel) dX12_hours_9 w_1645 w_1647 wp_72 (Or.inr ⟨8, _, _, rfl, rfl⟩), s_h0 mk_232⟩, (List.forall_mem_cons.mpr ⟨⟨s_iconst dX12_hours_12 (by decide +kernel), s_mo_push _ _⟩, (List.forall_mem_cons.mpr ⟨⟨s_ldIn dX12_hours_13 rfl, s_mo_ldI _ _⟩, (List.forall_mem_cons.mpr ⟨⟨s_ishl dX12_hours_14, s_mo_bin _ _⟩, (List.forall_mem_cons.mpr ⟨⟨s_iand dX12_hours_15, s_mo_bin _ _⟩, (List.forall_mem_cons.mpr ⟨⟨s_iast dX12_hours_16, s_mo_iast _⟩, (List.forall_mem_cons.mpr ⟨⟨s_iconst dX12_hours_17 (by decide +kernel), s_mo_push _ _⟩, (List.forall_mem_cons.mpr ⟨⟨s_stI dX12_hours_18, s_mo_stI _ _⟩, (List.forall_mem_cons.mpr ⟨⟨s_ldI dX12_hours_20, s_mo_ldI _ _⟩, (List.forall_mem_cons.mpr ⟨⟨s_bipush dX12_hours_22 (by decide +kernel), s_mo_push _ _⟩, (List.forall_mem_cons.mpr ⟨⟨s_icgt dX12_hours_24 (by decide), s_mo_icgt _ _⟩, (List.forall_mem_cons.mpr ⟨⟨s_ldI dX12_hours_27, s_mo_ldI _ _⟩, (List.forall_mem_cons.mpr ⟨⟨s_ifle dX12_hours_29 (by decide), s_mo_ifle _ _⟩, (List.forall_mem_cons.mpr ⟨⟨s_ldAn dX12_hours_32 rfl, s_mo_ldA _ _⟩, (List.forall_mem_cons.mpr ⟨⟨s_getf (ci := 8) (k := 21) rfl (by decide) inX12 w_1242 dX12_hours_33, s_mo_getf _ _ _⟩, (List.forall_mem_cons.mpr ⟨⟨s_ldI dX12_hours_36, s_mo_ldI _ _⟩, (List.forall_mem_cons.mpr ⟨⟨s_ldAn dX12_hours_38 rfl, s_mo_ldA _ _⟩, (List.forall_mem_cons.mpr ⟨⟨s_ldAn dX12_hours_39 rfl, s_mo_ldA _ _⟩, (List.forall_mem_cons.mpr ⟨⟨s_getf (ci := 8) (k := 21) rfl (by decide) inX12 w_1242 dX12_hours_40, s_mo_getf _ _ _⟩, (List.forall_mem_cons.mpr ⟨⟨s_ldI dX12_hours_43, s_mo_ldI _ _⟩, (List.forall_mem_cons.mpr ⟨⟨s_iconst dX12_hours_45 (by decide +kernel), s_mo_push _ _⟩, (List.forall_mem_cons.mpr ⟨⟨s_isub dX12_hours_46, s_mo_bin _ _⟩, (List.forall_mem_cons.mpr ⟨⟨s_iald dX12_hours_47, s_mo_iald _⟩, (List.forall_mem_cons.mpr ⟨⟨s_sV mk_232 mk_231 ok_231 (by decide +kernel) dX12_hours_48 w_1649 w_1651 wp_73 (Or.inr ⟨8, _, _, rfl, rfl⟩), s_h0 mk_232⟩, (List.forall_mem_cons.mpr ⟨⟨s_ldAn dX12_hours_51 rfl, s_mo_ldA _ _⟩, (List.forall_mem_cons.mpr ⟨⟨s_ldIn dX12_hours_52 rfl, s_mo_ldI _ _⟩, (List.forall_mem_cons.mpr ⟨⟨s_ldI dX12_hours_53, s_mo_ldI _ _⟩, (List.forall_mem_cons.mpr ⟨⟨s_iadd dX12_hours_55, s_mo_bin _ _⟩, (List.forall_mem_cons.mpr ⟨⟨s_ldI dX12_hours_56, s_mo_ldI _ _⟩, (List.forall_mem_cons.mpr ⟨⟨s_sV mk_232 mk_230 ok_230 (by decide +kernel) dX12_hours_58 w_1645 w_1647 wp_72 (Or.inr ⟨8, _, _, rfl, rfl⟩), s_h0 mk_232⟩, (List.forall_mem_cons.mpr ⟨⟨s_iand dX12_hours_61, s_mo_bin _ _⟩, (List.forall_mem_cons.mpr ⟨⟨s_iast dX12_hours_62, s_mo_iast _⟩, (List.forall_mem_cons.mpr ⟨⟨s_ldAn dX12_hours_63 rfl, s_mo_ldA _ _⟩, (fun _ h => absurd h List.not_mem_nil)⟩)⟩)⟩)⟩)⟩)⟩)⟩)⟩)⟩)⟩)⟩)⟩)⟩)⟩)⟩)⟩)⟩)⟩)⟩)⟩)⟩)⟩)⟩)⟩)⟩)⟩)⟩)⟩)⟩)⟩)⟩)⟩)⟩)⟩)⟩)⟩)⟩)⟩)⟩)
set_option maxRecDepth 20000 in
theorem kb_232_1 : ∀ q ∈ tb_232_1, s_atx 232 yX12_hours cX12_hours q.1 q.2 := (List.forall_mem_cons.mpr ⟨⟨s_getf (ci := 8) (k := 21) rfl (by decide) inX12 w_1242 dX12_hours_64, s_mo_getf _ _ _⟩, (List.forall_mem_cons.mpr ⟨⟨s_ldI dX12_hours_67, s_mo_ldI _ _⟩, (List.forall_mem_cons.mpr ⟨⟨s_iald dX12_hours_69, s_mo_iald _⟩, (List.forall_mem_cons.mpr ⟨⟨s_ldIn dX12_hours_70 rfl, s_mo_ldI _ _⟩, (List.forall_mem_cons.mpr ⟨⟨s_sS mk_232 mk_164 ok_164 (by decide +kernel) dX12_hours_71 w_1593 w_1594, s_h0 mk_232⟩, (List.forall_mem_cons.mpr ⟨⟨s_ifeq dX12_hours_74 (by decide), s_mo_ifeq _ _⟩, (List.forall_mem_cons.mpr ⟨⟨s_ldI dX12_hours_77, s_mo_ldI _ _⟩, (List.forall_mem_cons.mpr ⟨s_r1 mk_232 dX12_hours_79, (List.forall_mem_cons.mpr ⟨⟨s_inc dX12_hours_80 (by decide +kernel), s_mo_inc _ _ _⟩, (List.forall_mem_cons.mpr ⟨⟨s_goto dX12_hours_83 (by decide), s_mo_goto _⟩, (List.forall_mem_cons.mpr ⟨⟨s_iconst dX12_hours_86 (by decide +kernel), s_mo_push _ _⟩, (List.forall_mem_cons.mpr ⟨s_r1 mk_232 dX12_hours_87, (fun _ h => absurd h List.not_mem_nil)⟩)⟩)⟩)⟩)⟩)⟩)⟩)⟩)⟩)⟩)⟩)⟩)
theorem km_232 : ∀ t ∈ tm_232, s_tok 232 t := (List.forall_mem_cons.mpr ⟨s_lift mk_232 kb_232_0, (List.forall_mem_cons.mpr ⟨s_lift mk_232 kb_232_1, (fun _ h => absurd h List.not_mem_nil)⟩)⟩)
