/-! The tables are backed, piece by piece: written by wip/whole/gen_prog.py -/
theorem dX10_heaviestWeight_0 : decode cX10_heaviestWeight 0 = .ok (.iconst (-1), 1) := by decide +kernel
theorem dX10_heaviestWeight_1 : decode cX10_heaviestWeight 1 = .ok (.istore_n 2, 1) := by decide +kernel
theorem dX10_heaviestWeight_2 : decode cX10_heaviestWeight 2 = .ok (.sipush 512, 3) := by decide +kernel
theorem dX10_heaviestWeight_5 : decode cX10_heaviestWeight 5 = .ok (.istore_n 3, 1) := by decide +kernel
theorem dX10_heaviestWeight_6 : decode cX10_heaviestWeight 6 = .ok (.iload_n 3, 1) := by decide +kernel
theorem dX10_heaviestWeight_7 : decode cX10_heaviestWeight 7 = .ok (.ifCond .le 35, 3) := by decide +kernel
theorem dX10_heaviestWeight_10 : decode cX10_heaviestWeight 10 = .ok (.iload_n 2, 1) := by decide +kernel
theorem dX10_heaviestWeight_11 : decode cX10_heaviestWeight 11 = .ok (.iload_n 3, 1) := by decide +kernel
theorem dX10_heaviestWeight_12 : decode cX10_heaviestWeight 12 = .ok (.iadd, 1) := by decide +kernel
theorem dX10_heaviestWeight_13 : decode cX10_heaviestWeight 13 = .ok (.sipush 999, 3) := by decide +kernel
theorem dX10_heaviestWeight_16 : decode cX10_heaviestWeight 16 = .ok (.if_icmp .gt 19, 3) := by decide +kernel
theorem dX10_heaviestWeight_19 : decode cX10_heaviestWeight 19 = .ok (.aload_n 0, 1) := by decide +kernel
theorem dX10_heaviestWeight_20 : decode cX10_heaviestWeight 20 = .ok (.aload_n 1, 1) := by decide +kernel
theorem dX10_heaviestWeight_21 : decode cX10_heaviestWeight 21 = .ok (.iload_n 2, 1) := by decide +kernel
theorem dX10_heaviestWeight_22 : decode cX10_heaviestWeight 22 = .ok (.iload_n 3, 1) := by decide +kernel
theorem dX10_heaviestWeight_23 : decode cX10_heaviestWeight 23 = .ok (.iadd, 1) := by decide +kernel
theorem dX10_heaviestWeight_24 : decode cX10_heaviestWeight 24 = .ok (.invokevirtual 99, 3) := by decide +kernel
theorem dX10_heaviestWeight_27 : decode cX10_heaviestWeight 27 = .ok (.iconst (-1), 1) := by decide +kernel
theorem dX10_heaviestWeight_28 : decode cX10_heaviestWeight 28 = .ok (.if_icmp .eq 7, 3) := by decide +kernel
theorem dX10_heaviestWeight_31 : decode cX10_heaviestWeight 31 = .ok (.iload_n 2, 1) := by decide +kernel
theorem dX10_heaviestWeight_32 : decode cX10_heaviestWeight 32 = .ok (.iload_n 3, 1) := by decide +kernel
theorem dX10_heaviestWeight_33 : decode cX10_heaviestWeight 33 = .ok (.iadd, 1) := by decide +kernel
theorem dX10_heaviestWeight_34 : decode cX10_heaviestWeight 34 = .ok (.istore_n 2, 1) := by decide +kernel
theorem dX10_heaviestWeight_35 : decode cX10_heaviestWeight 35 = .ok (.iload_n 3, 1) := by decide +kernel
theorem dX10_heaviestWeight_36 : decode cX10_heaviestWeight 36 = .ok (.iconst 2, 1) := by decide +kernel
theorem dX10_heaviestWeight_37 : decode cX10_heaviestWeight 37 = .ok (.idiv, 1) := by decide +kernel
theorem dX10_heaviestWeight_38 : decode cX10_heaviestWeight 38 = .ok (.istore_n 3, 1) := by decide +kernel
theorem dX10_heaviestWeight_39 : decode cX10_heaviestWeight 39 = .ok (.goto (-33), 3) := by decide +kernel
theorem dX10_heaviestWeight_42 : decode cX10_heaviestWeight 42 = .ok (.iload_n 2, 1) := by decide +kernel
theorem dX10_heaviestWeight_43 : decode cX10_heaviestWeight 43 = .ok (.ireturn, 1) := by decide +kernel
set_option maxRecDepth 20000 in
theorem kb_98_0 : ∀ q ∈ tb_98_0, s_atx 98 yX10_heaviestWeight cX10_heaviestWeight q.1 q.2 := (List.forall_mem_cons.mpr ⟨⟨s_iconst dX10_heaviestWeight_0 (by decide +kernel), s_mo_push _ _⟩, (List.forall_mem_cons.mpr ⟨⟨s_stIn dX10_heaviestWeight_1 rfl, s_mo_stI _ _⟩, (List.forall_mem_cons.mpr ⟨⟨s_sipush dX10_heaviestWeight_2 (by decide +kernel), s_mo_push _ _⟩, (List.forall_mem_cons.mpr ⟨⟨s_stIn dX10_heaviestWeight_5 rfl, s_mo_stI _ _⟩, (List.forall_mem_cons.mpr ⟨⟨s_ldIn dX10_heaviestWeight_6 rfl, s_mo_ldI _ _⟩, (List.forall_mem_cons.mpr ⟨⟨s_ifle dX10_heaviestWeight_7 (by decide), s_mo_ifle _ _⟩, (List.forall_mem_cons.mpr ⟨⟨s_ldIn dX10_heaviestWeight_10 rfl, s_mo_ldI _ _⟩, (List.forall_mem_cons.mpr ⟨⟨s_ldIn dX10_heaviestWeight_11 rfl, s_mo_ldI _ _⟩, (List.forall_mem_cons.mpr ⟨⟨s_iadd dX10_heaviestWeight_12, s_mo_bin _ _⟩, (List.forall_mem_cons.mpr ⟨⟨s_sipush dX10_heaviestWeight_13 (by decide +kernel), s_mo_push _ _⟩, (List.forall_mem_cons.mpr ⟨⟨s_icgt dX10_heaviestWeight_16 (by decide), s_mo_icgt _ _⟩, (List.forall_mem_cons.mpr ⟨⟨s_ldAn dX10_heaviestWeight_19 rfl, s_mo_ldA _ _⟩, (List.forall_mem_cons.mpr ⟨⟨s_ldAn dX10_heaviestWeight_20 rfl, s_mo_ldA _ _⟩, (List.forall_mem_cons.mpr ⟨⟨s_ldIn dX10_heaviestWeight_21 rfl, s_mo_ldI _ _⟩, (List.forall_mem_cons.mpr ⟨⟨s_ldIn dX10_heaviestWeight_22 rfl, s_mo_ldI _ _⟩, (List.forall_mem_cons.mpr ⟨⟨s_iadd dX10_heaviestWeight_23, s_mo_bin _ _⟩, (List.forall_mem_cons.mpr ⟨⟨s_sV mk_98 mk_94 ok_94 (by decide +kernel) dX10_heaviestWeight_24 w_1165 w_1143 w_1144 (Or.inr ⟨6, _, _, rfl, rfl⟩), s_h0 mk_98⟩, (List.forall_mem_cons.mpr ⟨⟨s_iconst dX10_heaviestWeight_27 (by decide +kernel), s_mo_push _ _⟩, (List.forall_mem_cons.mpr ⟨⟨s_iceq dX10_heaviestWeight_28 (by decide), s_mo_iceq _ _⟩, (List.forall_mem_cons.mpr ⟨⟨s_ldIn dX10_heaviestWeight_31 rfl, s_mo_ldI _ _⟩, (List.forall_mem_cons.mpr ⟨⟨s_ldIn dX10_heaviestWeight_32 rfl, s_mo_ldI _ _⟩, (List.forall_mem_cons.mpr ⟨⟨s_iadd dX10_heaviestWeight_33, s_mo_bin _ _⟩, (List.forall_mem_cons.mpr ⟨⟨s_stIn dX10_heaviestWeight_34 rfl, s_mo_stI _ _⟩, (List.forall_mem_cons.mpr ⟨⟨s_ldIn dX10_heaviestWeight_35 rfl, s_mo_ldI _ _⟩, (List.forall_mem_cons.mpr ⟨⟨s_iconst dX10_heaviestWeight_36 (by decide +kernel), s_mo_push _ _⟩, (List.forall_mem_cons.mpr ⟨⟨s_idiv dX10_heaviestWeight_37, s_mo_div _⟩, (List.forall_mem_cons.mpr ⟨⟨s_stIn dX10_heaviestWeight_38 rfl, s_mo_stI _ _⟩, (List.forall_mem_cons.mpr ⟨⟨s_goto dX10_heaviestWeight_39 (by decide), s_mo_goto _⟩, (List.forall_mem_cons.mpr ⟨⟨s_ldIn dX10_heaviestWeight_42 rfl, s_mo_ldI _ _⟩, (List.forall_mem_cons.mpr ⟨s_r1 mk_98 dX10_heaviestWeight_43, (fun _ h => absurd h List.not_mem_nil)⟩)⟩)⟩)⟩)⟩)⟩)⟩)⟩)⟩)⟩)⟩)⟩)⟩)⟩)⟩)⟩)⟩)⟩)⟩)⟩)⟩)⟩)⟩)⟩)⟩)⟩)⟩)⟩)⟩)⟩)
theorem km_98 : ∀ t ∈ tm_98, s_tok 98 t := (List.forall_mem_cons.mpr ⟨s_lift mk_98 kb_98_0, (fun _ h => absurd h List.not_mem_nil)⟩)
theorem dX10_strengthened_0 : decode cX10_strengthened 0 = .ok (.aload_n 0, 1) := by decide +kernel
theorem dX10_strengthened_1 : decode cX10_strengthened 1 = .ok (.aload_n 1, 1) := by decide +kernel
theorem dX10_strengthened_2 : decode cX10_strengthened 2 = .ok (.aload_n 0, 1) := by decide +kernel
theorem dX10_strengthened_3 : decode cX10_strengthened 3 = .ok (.getfield 31, 3) := by decide +kernel
theorem dX10_strengthened_6 : decode cX10_strengthened 6 = .ok (.aload_n 0, 1) := by decide +kernel
theorem dX10_strengthened_7 : decode cX10_strengthened 7 = .ok (.getfield 25, 3) := by decide +kernel
theorem dX10_strengthened_10 : decode cX10_strengthened 10 = .ok (.iload_n 2, 1) := by decide +kernel
theorem dX10_strengthened_11 : decode cX10_strengthened 11 = .ok (.invokevirtual 78, 3) := by decide +kernel
theorem dX10_strengthened_14 : decode cX10_strengthened 14 = .ok (.aload_n 0, 1) := by decide +kernel
theorem dX10_strengthened_15 : decode cX10_strengthened 15 = .ok (.aload_n 1, 1) := by decide +kernel
theorem dX10_strengthened_16 : decode cX10_strengthened 16 = .ok (.aload_n 0, 1) := by decide +kernel
theorem dX10_strengthened_17 : decode cX10_strengthened 17 = .ok (.getfield 34, 3) := by decide +kernel
theorem dX10_strengthened_20 : decode cX10_strengthened 20 = .ok (.aload_n 0, 1) := by decide +kernel
theorem dX10_strengthened_21 : decode cX10_strengthened 21 = .ok (.getfield 28, 3) := by decide +kernel
theorem dX10_strengthened_24 : decode cX10_strengthened 24 = .ok (.iload_n 2, 1) := by decide +kernel
theorem dX10_strengthened_25 : decode cX10_strengthened 25 = .ok (.invokevirtual 78, 3) := by decide +kernel
theorem dX10_strengthened_28 : decode cX10_strengthened 28 = .ok (.aload_n 0, 1) := by decide +kernel
theorem dX10_strengthened_29 : decode cX10_strengthened 29 = .ok (.aload_n 1, 1) := by decide +kernel
theorem dX10_strengthened_30 : decode cX10_strengthened 30 = .ok (.iconst 0, 1) := by decide +kernel
theorem dX10_strengthened_31 : decode cX10_strengthened 31 = .ok (.invokevirtual 82, 3) := by decide +kernel
theorem dX10_strengthened_34 : decode cX10_strengthened 34 = .ok (.iconst (-1), 1) := by decide +kernel
theorem dX10_strengthened_35 : decode cX10_strengthened 35 = .ok (.if_icmp .eq 5, 3) := by decide +kernel
theorem dX10_strengthened_38 : decode cX10_strengthened 38 = .ok (.iconst 0, 1) := by decide +kernel
theorem dX10_strengthened_39 : decode cX10_strengthened 39 = .ok (.ireturn, 1) := by decide +kernel
theorem dX10_strengthened_40 : decode cX10_strengthened 40 = .ok (.aload_n 0, 1) := by decide +kernel
theorem dX10_strengthened_41 : decode cX10_strengthened 41 = .ok (.aload_n 1, 1) := by decide +kernel
theorem dX10_strengthened_42 : decode cX10_strengthened 42 = .ok (.aload_n 1, 1) := by decide +kernel
theorem dX10_strengthened_43 : decode cX10_strengthened 43 = .ok (.getfield 102, 3) := by decide +kernel
theorem dX10_strengthened_46 : decode cX10_strengthened 46 = .ok (.invokevirtual 82, 3) := by decide +kernel
theorem dX10_strengthened_49 : decode cX10_strengthened 49 = .ok (.iconst (-1), 1) := by decide +kernel
theorem dX10_strengthened_50 : decode cX10_strengthened 50 = .ok (.if_icmp .ne 5, 3) := by decide +kernel
theorem dX10_strengthened_53 : decode cX10_strengthened 53 = .ok (.iconst (-1), 1) := by decide +kernel
theorem dX10_strengthened_54 : decode cX10_strengthened 54 = .ok (.ireturn, 1) := by decide +kernel
theorem dX10_strengthened_55 : decode cX10_strengthened 55 = .ok (.iconst 0, 1) := by decide +kernel
theorem dX10_strengthened_56 : decode cX10_strengthened 56 = .ok (.istore_n 3, 1) := by decide +kernel
theorem dX10_strengthened_57 : decode cX10_strengthened 57 = .ok (.iload_n 3, 1) := by decide +kernel
theorem dX10_strengthened_58 : decode cX10_strengthened 58 = .ok (.aload_n 1, 1) := by decide +kernel
theorem dX10_strengthened_59 : decode cX10_strengthened 59 = .ok (.getfield 55, 3) := by decide +kernel
theorem dX10_strengthened_62 : decode cX10_strengthened 62 = .ok (.if_icmp .ge 25, 3) := by decide +kernel
theorem dX10_strengthened_65 : decode cX10_strengthened 65 = .ok (.aload_n 0, 1) := by decide +kernel
theorem dX10_strengthened_66 : decode cX10_strengthened 66 = .ok (.aload_n 1, 1) := by decide +kernel
theorem dX10_strengthened_67 : decode cX10_strengthened 67 = .ok (.iconst 1, 1) := by decide +kernel
theorem dX10_strengthened_68 : decode cX10_strengthened 68 = .ok (.iload_n 3, 1) := by decide +kernel
theorem dX10_strengthened_69 : decode cX10_strengthened 69 = .ok (.ishl, 1) := by decide +kernel
theorem dX10_strengthened_70 : decode cX10_strengthened 70 = .ok (.invokevirtual 82, 3) := by decide +kernel
theorem dX10_strengthened_73 : decode cX10_strengthened 73 = .ok (.iconst (-1), 1) := by decide +kernel
theorem dX10_strengthened_74 : decode cX10_strengthened 74 = .ok (.if_icmp .eq 7, 3) := by decide +kernel
theorem dX10_strengthened_77 : decode cX10_strengthened 77 = .ok (.iconst 1, 1) := by decide +kernel
theorem dX10_strengthened_78 : decode cX10_strengthened 78 = .ok (.iload_n 3, 1) := by decide +kernel
theorem dX10_strengthened_79 : decode cX10_strengthened 79 = .ok (.ishl, 1) := by decide +kernel
theorem dX10_strengthened_80 : decode cX10_strengthened 80 = .ok (.ireturn, 1) := by decide +kernel
theorem dX10_strengthened_81 : decode cX10_strengthened 81 = .ok (.iinc 3 1, 3) := by decide +kernel
theorem dX10_strengthened_84 : decode cX10_strengthened 84 = .ok (.goto (-27), 3) := by decide +kernel
theorem dX10_strengthened_87 : decode cX10_strengthened 87 = .ok (.aload_n 0, 1) := by decide +kernel
theorem dX10_strengthened_88 : decode cX10_strengthened 88 = .ok (.aload_n 1, 1) := by decide +kernel
theorem dX10_strengthened_89 : decode cX10_strengthened 89 = .ok (.invokevirtual 105, 3) := by decide +kernel
theorem dX10_strengthened_92 : decode cX10_strengthened 92 = .ok (.ireturn, 1) := by decide +kernel
set_option maxRecDepth 20000 in
theorem kb_99_0 : ∀ q ∈ tb_99_0, s_atx 99 yX10_strengthened cX10_strengthened q.1 q.2 := (List.forall_mem_cons.mpr ⟨⟨s_ldAn dX10_strengthened_0 rfl, s_mo_ldA _ _⟩, (List.forall_mem_cons.mpr ⟨⟨s_ldAn dX10_strengthened_1 rfl, s_mo_ldA _ _⟩, (List.forall_mem_cons.mpr ⟨⟨s_ldAn dX10_strengthened_2 rfl, s_mo_ldA _ _⟩, (List.forall_mem_cons.mpr ⟨⟨s_getf (ci := 6) (k := 6) rfl (by decide) inX10 w_261 dX10_strengthened_3, s_mo_getf _ _ _⟩, (List.forall_mem_cons.mpr ⟨⟨s_ldAn dX10_strengthened_6 rfl, s_mo_ldA _ _⟩, (List.forall_mem_cons.mpr ⟨⟨s_getf (ci := 6) (k := 4) rfl (by decide) inX10 w_259 dX10_strengthened_7, s_mo_getf _ _ _⟩, (List.forall_mem_cons.mpr ⟨⟨s_ldIn dX10_strengthened_10 rfl, s_mo_ldI _ _⟩, (List.forall_mem_cons.mpr ⟨⟨s_sV mk_99 mk_92 ok_92 (by decide +kernel) dX10_strengthened_11 w_1072 w_1074 wp_19 (Or.inr ⟨6, _, _, rfl, rfl⟩), s_h0 mk_99⟩, (List.forall_mem_cons.mpr ⟨⟨s_ldAn dX10_strengthened_14 rfl, s_mo_ldA _ _⟩, (List.forall_mem_cons.mpr ⟨⟨s_ldAn dX10_strengthened_15 rfl, s_mo_ldA _ _⟩, (List.forall_mem_cons.mpr ⟨⟨s_ldAn dX10_strengthened_16 rfl, s_mo_ldA _ _⟩, (List.forall_mem_cons.mpr ⟨⟨s_getf (ci := 6) (k := 7) rfl (by decide) inX10 w_262 dX10_strengthened_17, s_mo_getf _ _ _⟩, (List.forall_mem_cons.mpr ⟨⟨s_ldAn dX10_strengthened_20 rfl, s_mo_ldA _ _⟩, (List.forall_mem_cons.mpr ⟨⟨s_getf (ci := 6) (k := 5) rfl (by decide) inX10 w_260 dX10_strengthened_21, s_mo_getf _ _ _⟩, (List.forall_mem_cons.mpr ⟨⟨s_ldIn dX10_strengthened_24 rfl, s_mo_ldI _ _⟩, (List.forall_mem_cons.mpr ⟨⟨s_sV mk_99 mk_92 ok_92 (by decide +kernel) dX10_strengthened_25 w_1072 w_1074 wp_19 (Or.inr ⟨6, _, _, rfl, rfl⟩), s_h0 mk_99⟩, (List.forall_mem_cons.mpr ⟨⟨s_ldAn dX10_strengthened_28 rfl, s_mo_ldA _ _⟩, (List.forall_mem_cons.mpr ⟨⟨s_ldAn dX10_strengthened_29 rfl, s_mo_ldA _ _⟩, (List.forall_mem_cons.mpr ⟨⟨s_iconst dX10_strengthened_30 (by decide +kernel), s_mo_push _ _⟩, (List.forall_mem_cons.mpr ⟨⟨s_sV mk_99 mk_95 ok_95 (by decide +kernel) dX10_strengthened_31 w_1076 w_1078 wp_20 (Or.inr ⟨6, _, _, rfl, rfl⟩), s_h0 mk_99⟩, (List.forall_mem_cons.mpr ⟨⟨s_iconst dX10_strengthened_34 (by decide +kernel), s_mo_push _ _⟩, (List.forall_mem_cons.mpr ⟨⟨s_iceq dX10_strengthened_35 (by decide), s_mo_iceq _ _⟩, (List.forall_mem_cons.mpr ⟨⟨s_iconst dX10_strengthened_38 (by decide +kernel), s_mo_push _ _⟩, (List.forall_mem_cons.mpr ⟨s_r1 mk_99 dX10_strengthened_39, (List.forall_mem_cons.mpr ⟨⟨s_ldAn dX10_strengthened_40 rfl, s_mo_ldA _ _⟩, (List.forall_mem_cons.mpr ⟨⟨s_ldAn dX10_strengthened_41 rfl, s_mo_ldA _ _⟩, (List.forall_mem_cons.mpr ⟨⟨s_ldAn dX10_strengthened_42 rfl, s_mo_ldA _ _⟩, (List.forall_mem_cons.mpr ⟨⟨s_getf (ci := 0) (k := 3) rfl (by decide) inX0 w_67 dX10_strengthened_43, s_mo_getf _ _ _⟩, (List.forall_mem_cons.mpr ⟨⟨s_sV mk_99 mk_95 ok_95 (by decide +kernel) dX10_strengthened_46 w_1076 w_1078 wp_20 (Or.inr ⟨6, _, _, rfl, rfl⟩), s_h0 mk_99⟩, (List.forall_mem_cons.mpr ⟨⟨s_iconst dX10_strengthened_49 (by decide +kernel), s_mo_push _ _⟩, (List.forall_mem_cons.mpr ⟨⟨s_icne dX10_strengthened_50 (by decide), s_mo_icne _ _⟩, (List.forall_mem_cons.mpr ⟨⟨s_iconst dX10_strengthened_53 (by decide +kernel), s_mo_push _ _⟩, (List.forall_mem_cons.mpr ⟨s_r1 mk_99 dX10_strengthened_54, (List.forall_mem_cons.mpr ⟨⟨s_iconst dX10_strengthened_55 (by decide +kernel), s_mo_push _ _⟩, (List.forall_mem_cons.mpr ⟨⟨s_stIn dX10_strengthened_56 rfl, s_mo_stI _ _⟩, (List.forall_mem_cons.mpr ⟨⟨s_ldIn dX10_strengthened_57 rfl, s_mo_ldI _ _⟩, (List.forall_mem_cons.mpr ⟨⟨s_ldAn dX10_strengthened_58 rfl, s_mo_ldA _ _⟩, (List.forall_mem_cons.mpr ⟨⟨s_getf (ci := 0) (k := 2) rfl (by decide) inX0 w_60 dX10_strengthened_59, s_mo_getf _ _ _⟩, (List.forall_mem_cons.mpr ⟨⟨s_icge dX10_strengthened_62 (by decide), s_mo_icge _ _⟩, (fun _ h => absurd h List.not_mem_nil)⟩)⟩)⟩)⟩)⟩)⟩)⟩)⟩)⟩)⟩)⟩)⟩)⟩)⟩)⟩)⟩)⟩)⟩)⟩)⟩)⟩)⟩)⟩)⟩)⟩)⟩)⟩)⟩)⟩)⟩)⟩)⟩)⟩)⟩)⟩)⟩)⟩)⟩)⟩)
set_option maxRecDepth 20000 in
theorem kb_99_1 : ∀ q ∈ tb_99_1, s_atx 99 yX10_strengthened cX10_strengthened q.1 q.2 := (List.forall_mem_cons.mpr ⟨⟨s_ldAn dX10_strengthened_65 rfl, s_mo_ldA _ _⟩, (List.forall_mem_cons.mpr ⟨⟨s_ldAn dX10_strengthened_66 rfl, s_mo_ldA _ _⟩, (List.forall_mem_cons.mpr ⟨⟨s_iconst dX10_strengthened_67 (by decide +kernel), s_mo_push _ _⟩, (List.forall_mem_cons.mpr ⟨⟨s_ldIn dX10_strengthened_68 rfl, s_mo_ldI _ _⟩, (List.forall_mem_cons.mpr ⟨⟨s_ishl dX10_strengthened_69, s_mo_bin _ _⟩, (List.forall_mem_cons.mpr ⟨⟨s_sV mk_99 mk_95 ok_95 (by decide +kernel) dX10_strengthened_70 w_1076 w_1078 wp_20 (Or.inr ⟨6, _, _, rfl, rfl⟩), s_h0 mk_99⟩, (List.forall_mem_cons.mpr ⟨⟨s_iconst dX10_strengthened_73 (by decide +kernel), s_mo_push _ _⟩, (List.forall_mem_cons.mpr ⟨⟨s_iceq dX10_strengthened_74 (by decide), s_mo_iceq _ _⟩, (List.forall_mem_cons.mpr ⟨⟨s_iconst dX10_strengthened_77 (by decide +kernel), s_mo_push _ _⟩, (List.forall_mem_cons.mpr ⟨⟨s_ldIn dX10_strengthened_78 rfl, s_mo_ldI _ _⟩, (List.forall_mem_cons.mpr ⟨⟨s_ishl dX10_strengthened_79, s_mo_bin _ _⟩, (List.forall_mem_cons.mpr ⟨s_r1 mk_99 dX10_strengthened_80, (List.forall_mem_cons.mpr ⟨⟨s_inc dX10_strengthened_81 (by decide +kernel), s_mo_inc _ _ _⟩, (List.forall_mem_cons.mpr ⟨⟨s_goto dX10_strengthened_84 (by decide), s_mo_goto _⟩, (List.forall_mem_cons.mpr ⟨⟨s_ldAn dX10_strengthened_87 rfl, s_mo_ldA _ _⟩, (List.forall_mem_cons.mpr ⟨⟨s_ldAn dX10_strengthened_88 rfl, s_mo_ldA _ _⟩, (List.forall_mem_cons.mpr ⟨⟨s_sV mk_99 mk_100 ok_100 (by decide +kernel) dX10_strengthened_89 w_1084 w_1086 wp_21 (Or.inr ⟨6, _, _, rfl, rfl⟩), s_h0 mk_99⟩, (List.forall_mem_cons.mpr ⟨s_r1 mk_99 dX10_strengthened_92, (fun _ h => absurd h List.not_mem_nil)⟩)⟩)⟩)⟩)⟩)⟩)⟩)⟩)⟩)⟩)⟩)⟩)⟩)⟩)⟩)⟩)⟩)⟩)
theorem km_99 : ∀ t ∈ tm_99, s_tok 99 t := (List.forall_mem_cons.mpr ⟨s_lift mk_99 kb_99_0, (List.forall_mem_cons.mpr ⟨s_lift mk_99 kb_99_1, (fun _ h => absurd h List.not_mem_nil)⟩)⟩)
theorem dX10_strengthenedPair_0 : decode cX10_strengthenedPair 0 = .ok (.iconst 1, 1) := by decide +kernel
theorem dX10_strengthenedPair_1 : decode cX10_strengthenedPair 1 = .ok (.istore_n 2, 1) := by decide +kernel
theorem dX10_strengthenedPair_2 : decode cX10_strengthenedPair 2 = .ok (.iload_n 2, 1) := by decide +kernel
theorem dX10_strengthenedPair_3 : decode cX10_strengthenedPair 3 = .ok (.aload_n 1, 1) := by decide +kernel
theorem dX10_strengthenedPair_4 : decode cX10_strengthenedPair 4 = .ok (.getfield 55, 3) := by decide +kernel
theorem dX10_strengthenedPair_7 : decode cX10_strengthenedPair 7 = .ok (.if_icmp .ge 45, 3) := by decide +kernel
theorem dX10_strengthenedPair_10 : decode cX10_strengthenedPair 10 = .ok (.iconst 0, 1) := by decide +kernel
theorem dX10_strengthenedPair_11 : decode cX10_strengthenedPair 11 = .ok (.istore_n 3, 1) := by decide +kernel
theorem dX10_strengthenedPair_12 : decode cX10_strengthenedPair 12 = .ok (.iload_n 3, 1) := by decide +kernel
theorem dX10_strengthenedPair_13 : decode cX10_strengthenedPair 13 = .ok (.iload_n 2, 1) := by decide +kernel
theorem dX10_strengthenedPair_14 : decode cX10_strengthenedPair 14 = .ok (.if_icmp .ge 32, 3) := by decide +kernel
theorem dX10_strengthenedPair_17 : decode cX10_strengthenedPair 17 = .ok (.iconst 1, 1) := by decide +kernel
theorem dX10_strengthenedPair_18 : decode cX10_strengthenedPair 18 = .ok (.iload_n 2, 1) := by decide +kernel
theorem dX10_strengthenedPair_19 : decode cX10_strengthenedPair 19 = .ok (.ishl, 1) := by decide +kernel
theorem dX10_strengthenedPair_20 : decode cX10_strengthenedPair 20 = .ok (.iconst 1, 1) := by decide +kernel
theorem dX10_strengthenedPair_21 : decode cX10_strengthenedPair 21 = .ok (.iload_n 3, 1) := by decide +kernel
theorem dX10_strengthenedPair_22 : decode cX10_strengthenedPair 22 = .ok (.ishl, 1) := by decide +kernel
theorem dX10_strengthenedPair_23 : decode cX10_strengthenedPair 23 = .ok (.ior, 1) := by decide +kernel
theorem dX10_strengthenedPair_24 : decode cX10_strengthenedPair 24 = .ok (.istore 4, 2) := by decide +kernel
theorem dX10_strengthenedPair_26 : decode cX10_strengthenedPair 26 = .ok (.aload_n 0, 1) := by decide +kernel
theorem dX10_strengthenedPair_27 : decode cX10_strengthenedPair 27 = .ok (.aload_n 1, 1) := by decide +kernel
theorem dX10_strengthenedPair_28 : decode cX10_strengthenedPair 28 = .ok (.iload 4, 2) := by decide +kernel
theorem dX10_strengthenedPair_30 : decode cX10_strengthenedPair 30 = .ok (.invokevirtual 82, 3) := by decide +kernel
theorem dX10_strengthenedPair_33 : decode cX10_strengthenedPair 33 = .ok (.iconst (-1), 1) := by decide +kernel
theorem dX10_strengthenedPair_34 : decode cX10_strengthenedPair 34 = .ok (.if_icmp .eq 6, 3) := by decide +kernel
theorem dX10_strengthenedPair_37 : decode cX10_strengthenedPair 37 = .ok (.iload 4, 2) := by decide +kernel
theorem dX10_strengthenedPair_39 : decode cX10_strengthenedPair 39 = .ok (.ireturn, 1) := by decide +kernel
theorem dX10_strengthenedPair_40 : decode cX10_strengthenedPair 40 = .ok (.iinc 3 1, 3) := by decide +kernel
theorem dX10_strengthenedPair_43 : decode cX10_strengthenedPair 43 = .ok (.goto (-31), 3) := by decide +kernel
theorem dX10_strengthenedPair_46 : decode cX10_strengthenedPair 46 = .ok (.iinc 2 1, 3) := by decide +kernel
theorem dX10_strengthenedPair_49 : decode cX10_strengthenedPair 49 = .ok (.goto (-47), 3) := by decide +kernel
theorem dX10_strengthenedPair_52 : decode cX10_strengthenedPair 52 = .ok (.iconst (-1), 1) := by decide +kernel
theorem dX10_strengthenedPair_53 : decode cX10_strengthenedPair 53 = .ok (.ireturn, 1) := by decide +kernel
set_option maxRecDepth 20000 in
theorem kb_100_0 : ∀ q ∈ tb_100_0, s_atx 100 yX10_strengthenedPair cX10_strengthenedPair q.1 q.2 := (List.forall_mem_cons.mpr ⟨⟨s_iconst dX10_strengthenedPair_0 (by decide +kernel), s_mo_push _ _⟩, (List.forall_mem_cons.mpr ⟨⟨s_stIn dX10_strengthenedPair_1 rfl, s_mo_stI _ _⟩, (List.forall_mem_cons.mpr ⟨⟨s_ldIn dX10_strengthenedPair_2 rfl, s_mo_ldI _ _⟩, (List.forall_mem_cons.mpr ⟨⟨s_ldAn dX10_strengthenedPair_3 rfl, s_mo_ldA _ _⟩, (List.forall_mem_cons.mpr ⟨⟨s_getf (ci := 0) (k := 2) rfl (by decide) inX0 w_60 dX10_strengthenedPair_4, s_mo_getf _ _ _⟩, (List.forall_mem_cons.mpr ⟨⟨s_icge dX10_strengthenedPair_7 (by decide), s_mo_icge _ _⟩, (List.forall_mem_cons.mpr ⟨⟨s_iconst dX10_strengthenedPair_10 (by decide +kernel), s_mo_push _ _⟩, (List.forall_mem_cons.mpr ⟨⟨s_stIn dX10_strengthenedPair_11 rfl, s_mo_stI _ _⟩, (List.forall_mem_cons.mpr ⟨⟨s_ldIn dX10_strengthenedPair_12 rfl, s_mo_ldI _ _⟩, (List.forall_mem_cons.mpr ⟨⟨s_ldIn dX10_strengthenedPair_13 rfl, s_mo_ldI _ _⟩, (List.forall_mem_cons.mpr ⟨⟨s_icge dX10_strengthenedPair_14 (by decide), s_mo_icge _ _⟩, (List.forall_mem_cons.mpr ⟨⟨s_iconst dX10_strengthenedPair_17 (by decide +kernel), s_mo_push _ _⟩, (List.forall_mem_cons.mpr ⟨⟨s_ldIn dX10_strengthenedPair_18 rfl, s_mo_ldI _ _⟩, (List.forall_mem_cons.mpr ⟨⟨s_ishl dX10_strengthenedPair_19, s_mo_bin _ _⟩, (List.forall_mem_cons.mpr ⟨⟨s_iconst dX10_strengthenedPair_20 (by decide +kernel), s_mo_push _ _⟩, (List.forall_mem_cons.mpr ⟨⟨s_ldIn dX10_strengthenedPair_21 rfl, s_mo_ldI _ _⟩, (List.forall_mem_cons.mpr ⟨⟨s_ishl dX10_strengthenedPair_22, s_mo_bin _ _⟩, (List.forall_mem_cons.mpr ⟨⟨s_ior dX10_strengthenedPair_23, s_mo_bin _ _⟩, (List.forall_mem_cons.mpr ⟨⟨s_stI dX10_strengthenedPair_24, s_mo_stI _ _⟩, (List.forall_mem_cons.mpr ⟨⟨s_ldAn dX10_strengthenedPair_26 rfl, s_mo_ldA _ _⟩, (List.forall_mem_cons.mpr ⟨⟨s_ldAn dX10_strengthenedPair_27 rfl, s_mo_ldA _ _⟩, (List.forall_mem_cons.mpr ⟨⟨s_ldI dX10_strengthenedPair_28, s_mo_ldI _ _⟩, (List.forall_mem_cons.mpr ⟨⟨s_sV mk_100 mk_95 ok_95 (by decide +kernel) dX10_strengthenedPair_30 w_1076 w_1078 wp_20 (Or.inr ⟨6, _, _, rfl, rfl⟩), s_h0 mk_100⟩, (List.forall_mem_cons.mpr ⟨⟨s_iconst dX10_strengthenedPair_33 (by decide +kernel), s_mo_push _ _⟩, (List.forall_mem_cons.mpr ⟨⟨s_iceq dX10_strengthenedPair_34 (by decide), s_mo_iceq _ _⟩, (List.forall_mem_cons.mpr ⟨⟨s_ldI dX10_strengthenedPair_37, s_mo_ldI _ _⟩, (List.forall_mem_cons.mpr ⟨s_r1 mk_100 dX10_strengthenedPair_39, (List.forall_mem_cons.mpr ⟨⟨s_inc dX10_strengthenedPair_40 (by decide +kernel), s_mo_inc _ _ _⟩, (List.forall_mem_cons.mpr ⟨⟨s_goto dX10_strengthenedPair_43 (by decide), s_mo_goto _⟩, (List.forall_mem_cons.mpr ⟨⟨s_inc dX10_strengthenedPair_46 (by decide +kernel), s_mo_inc _ _ _⟩, (List.forall_mem_cons.mpr ⟨⟨s_goto dX10_strengthenedPair_49 (by decide), s_mo_goto _⟩, (List.forall_mem_cons.mpr ⟨⟨s_iconst dX10_strengthenedPair_52 (by decide +kernel), s_mo_push _ _⟩, (List.forall_mem_cons.mpr ⟨s_r1 mk_100 dX10_strengthenedPair_53, (fun _ h => absurd h List.not_mem_nil)⟩)⟩)⟩)⟩)⟩)⟩)⟩)⟩)⟩)⟩)⟩)⟩)⟩)⟩)⟩)⟩)⟩)⟩)⟩)⟩)⟩)⟩)⟩)⟩)⟩)⟩)⟩)⟩)⟩)⟩)⟩)⟩)⟩)
theorem km_100 : ∀ t ∈ tm_100, s_tok 100 t := (List.forall_mem_cons.mpr ⟨s_lift mk_100 kb_100_0, (fun _ h => absurd h List.not_mem_nil)⟩)
theorem dX11_init_0 : decode cX11_init 0 = .ok (.aload_n 0, 1) := by decide +kernel
theorem dX11_init_1 : decode cX11_init 1 = .ok (.invokespecial 1, 3) := by decide +kernel
theorem dX11_init_4 : decode cX11_init 4 = .ok (.aload_n 0, 1) := by decide +kernel
theorem dX11_init_5 : decode cX11_init 5 = .ok (.new 7, 3) := by decide +kernel
theorem dX11_init_8 : decode cX11_init 8 = .ok (.dup, 1) := by decide +kernel
theorem dX11_init_9 : decode cX11_init 9 = .ok (.invokespecial 9, 3) := by decide +kernel
theorem dX11_init_12 : decode cX11_init 12 = .ok (.putfield 10, 3) := by decide +kernel
theorem dX11_init_15 : decode cX11_init 15 = .ok (.aload_n 0, 1) := by decide +kernel
theorem dX11_init_16 : decode cX11_init 16 = .ok (.new 7, 3) := by decide +kernel
theorem dX11_init_19 : decode cX11_init 19 = .ok (.dup, 1) := by decide +kernel
theorem dX11_init_20 : decode cX11_init 20 = .ok (.invokespecial 9, 3) := by decide +kernel
theorem dX11_init_23 : decode cX11_init 23 = .ok (.putfield 16, 3) := by decide +kernel
theorem dX11_init_26 : decode cX11_init 26 = .ok (.aload_n 0, 1) := by decide +kernel
theorem dX11_init_27 : decode cX11_init 27 = .ok (.new 7, 3) := by decide +kernel
theorem dX11_init_30 : decode cX11_init 30 = .ok (.dup, 1) := by decide +kernel
theorem dX11_init_31 : decode cX11_init 31 = .ok (.invokespecial 9, 3) := by decide +kernel
theorem dX11_init_34 : decode cX11_init 34 = .ok (.putfield 19, 3) := by decide +kernel
theorem dX11_init_37 : decode cX11_init 37 = .ok (.aload_n 0, 1) := by decide +kernel
theorem dX11_init_38 : decode cX11_init 38 = .ok (.new 22, 3) := by decide +kernel
theorem dX11_init_41 : decode cX11_init 41 = .ok (.dup, 1) := by decide +kernel
theorem dX11_init_42 : decode cX11_init 42 = .ok (.invokespecial 24, 3) := by decide +kernel
theorem dX11_init_45 : decode cX11_init 45 = .ok (.putfield 25, 3) := by decide +kernel
theorem dX11_init_48 : decode cX11_init 48 = .ok (.aload_n 0, 1) := by decide +kernel
theorem dX11_init_49 : decode cX11_init 49 = .ok (.new 22, 3) := by decide +kernel
theorem dX11_init_52 : decode cX11_init 52 = .ok (.dup, 1) := by decide +kernel
theorem dX11_init_53 : decode cX11_init 53 = .ok (.invokespecial 24, 3) := by decide +kernel
theorem dX11_init_56 : decode cX11_init 56 = .ok (.putfield 29, 3) := by decide +kernel
theorem dX11_init_59 : decode cX11_init 59 = .ok (.aload_n 0, 1) := by decide +kernel
theorem dX11_init_60 : decode cX11_init 60 = .ok (.new 22, 3) := by decide +kernel
theorem dX11_init_63 : decode cX11_init 63 = .ok (.dup, 1) := by decide +kernel
theorem dX11_init_64 : decode cX11_init 64 = .ok (.invokespecial 24, 3) := by decide +kernel
theorem dX11_init_67 : decode cX11_init 67 = .ok (.putfield 32, 3) := by decide +kernel
theorem dX11_init_70 : decode cX11_init 70 = .ok (.aload_n 0, 1) := by decide +kernel
theorem dX11_init_71 : decode cX11_init 71 = .ok (.new 35, 3) := by decide +kernel
theorem dX11_init_74 : decode cX11_init 74 = .ok (.dup, 1) := by decide +kernel
theorem dX11_init_75 : decode cX11_init 75 = .ok (.invokespecial 37, 3) := by decide +kernel
theorem dX11_init_78 : decode cX11_init 78 = .ok (.putfield 38, 3) := by decide +kernel
theorem dX11_init_81 : decode cX11_init 81 = .ok (.aload_n 0, 1) := by decide +kernel
theorem dX11_init_82 : decode cX11_init 82 = .ok (.new 42, 3) := by decide +kernel
theorem dX11_init_85 : decode cX11_init 85 = .ok (.dup, 1) := by decide +kernel
theorem dX11_init_86 : decode cX11_init 86 = .ok (.invokespecial 44, 3) := by decide +kernel
theorem dX11_init_89 : decode cX11_init 89 = .ok (.putfield 45, 3) := by decide +kernel
theorem dX11_init_92 : decode cX11_init 92 = .ok (.aload_n 0, 1) := by decide +kernel
theorem dX11_init_93 : decode cX11_init 93 = .ok (.new 49, 3) := by decide +kernel
theorem dX11_init_96 : decode cX11_init 96 = .ok (.dup, 1) := by decide +kernel
theorem dX11_init_97 : decode cX11_init 97 = .ok (.invokespecial 51, 3) := by decide +kernel
theorem dX11_init_100 : decode cX11_init 100 = .ok (.putfield 52, 3) := by decide +kernel
theorem dX11_init_103 : decode cX11_init 103 = .ok (.aload_n 0, 1) := by decide +kernel
theorem dX11_init_104 : decode cX11_init 104 = .ok (.new 56, 3) := by decide +kernel
theorem dX11_init_107 : decode cX11_init 107 = .ok (.dup, 1) := by decide +kernel
theorem dX11_init_108 : decode cX11_init 108 = .ok (.invokespecial 58, 3) := by decide +kernel
theorem dX11_init_111 : decode cX11_init 111 = .ok (.putfield 59, 3) := by decide +kernel
theorem dX11_init_114 : decode cX11_init 114 = .ok (.aload_n 0, 1) := by decide +kernel
theorem dX11_init_115 : decode cX11_init 115 = .ok (.new 63, 3) := by decide +kernel
theorem dX11_init_118 : decode cX11_init 118 = .ok (.dup, 1) := by decide +kernel
theorem dX11_init_119 : decode cX11_init 119 = .ok (.invokespecial 65, 3) := by decide +kernel
theorem dX11_init_122 : decode cX11_init 122 = .ok (.putfield 66, 3) := by decide +kernel
theorem dX11_init_125 : decode cX11_init 125 = .ok (.aload_n 0, 1) := by decide +kernel
theorem dX11_init_126 : decode cX11_init 126 = .ok (.bipush 31, 2) := by decide +kernel
theorem dX11_init_128 : decode cX11_init 128 = .ok (.newarray .long, 2) := by decide +kernel
theorem dX11_init_130 : decode cX11_init 130 = .ok (.putfield 70, 3) := by decide +kernel
theorem dX11_init_133 : decode cX11_init 133 = .ok (.aload_n 0, 1) := by decide +kernel
theorem dX11_init_134 : decode cX11_init 134 = .ok (.iconst (-1), 1) := by decide +kernel
theorem dX11_init_135 : decode cX11_init 135 = .ok (.putfield 74, 3) := by decide +kernel
theorem dX11_init_138 : decode cX11_init 138 = .ok (.aload_n 0, 1) := by decide +kernel
theorem dX11_init_139 : decode cX11_init 139 = .ok (.iconst 0, 1) := by decide +kernel
theorem dX11_init_140 : decode cX11_init 140 = .ok (.putfield 78, 3) := by decide +kernel
theorem dX11_init_143 : decode cX11_init 143 = .ok (.return_, 1) := by decide +kernel
set_option maxRecDepth 20000 in
theorem kb_101_0 : ∀ q ∈ tb_101_0, s_atx 101 yX11_init cX11_init q.1 q.2 := (List.forall_mem_cons.mpr ⟨⟨s_ldAn dX11_init_0 rfl, s_mo_ldA _ _⟩, (List.forall_mem_cons.mpr ⟨⟨s_oinit w_34 w_oi w_oc dX11_init_1, s_mo_oinit _⟩, (List.forall_mem_cons.mpr ⟨⟨s_ldAn dX11_init_4 rfl, s_mo_ldA _ _⟩, (List.forall_mem_cons.mpr ⟨⟨s_new (ci := 0) rfl inX0 tyX0_ok (by decide +kernel) (fun _ _ => rfl) rfl w_37 wi_X0 wz_X0 dX11_init_5, s_mo_new _ _ _⟩, (List.forall_mem_cons.mpr ⟨⟨s_dup dX11_init_8, s_mo_dup _⟩, (List.forall_mem_cons.mpr ⟨⟨s_sI mk_101 mk_0 ok_0 (by decide +kernel) dX11_init_9 rfl w_40 ⟨0, _, _, rfl, rfl⟩ (Or.inl w_39), s_h0 mk_101⟩, (List.forall_mem_cons.mpr ⟨⟨s_putA (ci := 7) (k := 0) rfl (by decide) inX11 tyX11_ok nmX11 rfl (fun _ => rfl) (fun _ => rfl) w_297 dX11_init_12, s_mo_putA _ _ _⟩, (List.forall_mem_cons.mpr ⟨⟨s_ldAn dX11_init_15 rfl, s_mo_ldA _ _⟩, (List.forall_mem_cons.mpr ⟨⟨s_new (ci := 0) rfl inX0 tyX0_ok (by decide +kernel) (fun _ _ => rfl) rfl w_37 wi_X0 wz_X0 dX11_init_16, s_mo_new _ _ _⟩, (List.forall_mem_cons.mpr ⟨⟨s_dup dX11_init_19, s_mo_dup _⟩, (List.forall_mem_cons.mpr ⟨⟨s_sI mk_101 mk_0 ok_0 (by decide +kernel) dX11_init_20 rfl w_40 ⟨0, _, _, rfl, rfl⟩ (Or.inl w_39), s_h0 mk_101⟩, (List.forall_mem_cons.mpr ⟨⟨s_putA (ci := 7) (k := 1) rfl (by decide) inX11 tyX11_ok nmX11 rfl (fun _ => rfl) (fun _ => rfl) w_298 dX11_init_23, s_mo_putA _ _ _⟩, (List.forall_mem_cons.mpr ⟨⟨s_ldAn dX11_init_26 rfl, s_mo_ldA _ _⟩, (List.forall_mem_cons.mpr ⟨⟨s_new (ci := 0) rfl inX0 tyX0_ok (by decide +kernel) (fun _ _ => rfl) rfl w_37 wi_X0 wz_X0 dX11_init_27, s_mo_new _ _ _⟩, (List.forall_mem_cons.mpr ⟨⟨s_dup dX11_init_30, s_mo_dup _⟩, (List.forall_mem_cons.mpr ⟨⟨s_sI mk_101 mk_0 ok_0 (by decide +kernel) dX11_init_31 rfl w_40 ⟨0, _, _, rfl, rfl⟩ (Or.inl w_39), s_h0 mk_101⟩, (List.forall_mem_cons.mpr ⟨⟨s_putAF (ci := 7) (k := 2) rfl (by decide) inX11 tyX11_ok nmX11 rfl rfl rfl (fun _ => rfl) (fun _ => rfl) w_299 dX11_init_34, s_mo_putA _ _ _⟩, (List.forall_mem_cons.mpr ⟨⟨s_ldAn dX11_init_37 rfl, s_mo_ldA _ _⟩, (List.forall_mem_cons.mpr ⟨⟨s_new (ci := 2) rfl inX5 tyX5_ok (by decide +kernel) (fun _ _ => rfl) rfl w_160 wi_X5 wz_X5 dX11_init_38, s_mo_new _ _ _⟩, (List.forall_mem_cons.mpr ⟨⟨s_dup dX11_init_41, s_mo_dup _⟩, (List.forall_mem_cons.mpr ⟨⟨s_sI mk_101 mk_43 ok_43 (by decide +kernel) dX11_init_42 rfl w_163 ⟨2, _, _, rfl, rfl⟩ (Or.inr ⟨_, List.mem_of_getElem? (i := 0) rfl⟩), s_h0 mk_101⟩, (List.forall_mem_cons.mpr ⟨⟨s_putA (ci := 7) (k := 3) rfl (by decide) inX11 tyX11_ok nmX11 rfl (fun _ => rfl) (fun _ => rfl) w_300 dX11_init_45, s_mo_putA _ _ _⟩, (List.forall_mem_cons.mpr ⟨⟨s_ldAn dX11_init_48 rfl, s_mo_ldA _ _⟩, (List.forall_mem_cons.mpr ⟨⟨s_new (ci := 2) rfl inX5 tyX5_ok (by decide +kernel) (fun _ _ => rfl) rfl w_160 wi_X5 wz_X5 dX11_init_49, s_mo_new _ _ _⟩, (List.forall_mem_cons.mpr ⟨⟨s_dup dX11_init_52, s_mo_dup _⟩, (List.forall_mem_cons.mpr ⟨⟨s_sI mk_101 mk_43 ok_43 (by decide +kernel) dX11_init_53 rfl w_163 ⟨2, _, _, rfl, rfl⟩ (Or.inr ⟨_, List.mem_of_getElem? (i := 0) rfl⟩), s_h0 mk_101⟩, (List.forall_mem_cons.mpr ⟨⟨s_putA (ci := 7) (k := 4) rfl (by decide) inX11 tyX11_ok nmX11 rfl (fun _ => rfl) (fun _ => rfl) w_301 dX11_init_56, s_mo_putA _ _ _⟩, (List.forall_mem_cons.mpr ⟨⟨s_ldAn dX11_init_59 rfl, s_mo_ldA _ _⟩, (List.forall_mem_cons.mpr ⟨⟨s_new (ci := 2) rfl inX5 tyX5_ok (by decide +kernel) (fun _ _ => rfl) rfl w_160 wi_X5 wz_X5 dX11_init_60, s_mo_new _ _ _⟩, (List.forall_mem_cons.mpr ⟨⟨s_dup dX11_init_63, s_mo_dup _⟩, (fun _ h => absurd h List.not_mem_nil)⟩)⟩)⟩)⟩)⟩)⟩)⟩)⟩)⟩)⟩)⟩)⟩)⟩)⟩)⟩)⟩)⟩)⟩)⟩)⟩)⟩)⟩)⟩)⟩)⟩)⟩)⟩)⟩)⟩)⟩)
set_option maxRecDepth 20000 in
theorem kb_101_1 : ∀ q ∈ tb_101_1, s_atx 101 yX11_init cX11_init q.1 q.2 := (List.forall_mem_cons.mpr ⟨⟨s_sI mk_101 mk_43 ok_43 (by decide +kernel) dX11_init_64 rfl w_163 ⟨2, _, _, rfl, rfl⟩ (Or.inr ⟨_, List.mem_of_getElem? (i := 0) rfl⟩), s_h0 mk_101⟩, (List.forall_mem_cons.mpr ⟨⟨s_putAF (ci := 7) (k := 5) rfl (by decide) inX11 tyX11_ok nmX11 rfl rfl rfl (fun _ => rfl) (fun _ => rfl) w_302 dX11_init_67, s_mo_putA _ _ _⟩, (List.forall_mem_cons.mpr ⟨⟨s_ldAn dX11_init_70 rfl, s_mo_ldA _ _⟩, (List.forall_mem_cons.mpr ⟨⟨s_new (ci := 5) rfl inX9 tyX9_ok (by decide +kernel) (fun _ _ => rfl) rfl w_192 wi_X9 wz_X9 dX11_init_71, s_mo_new _ _ _⟩, (List.forall_mem_cons.mpr ⟨⟨s_dup dX11_init_74, s_mo_dup _⟩, (List.forall_mem_cons.mpr ⟨⟨s_sI mk_101 mk_75 ok_75 (by decide +kernel) dX11_init_75 rfl w_195 ⟨5, _, _, rfl, rfl⟩ (Or.inr ⟨_, List.mem_of_getElem? (i := 1) rfl⟩), s_h0 mk_101⟩, (List.forall_mem_cons.mpr ⟨⟨s_putAF (ci := 7) (k := 6) rfl (by decide) inX11 tyX11_ok nmX11 rfl rfl rfl (fun _ => rfl) (fun _ => rfl) w_303 dX11_init_78, s_mo_putA _ _ _⟩, (List.forall_mem_cons.mpr ⟨⟨s_ldAn dX11_init_81 rfl, s_mo_ldA _ _⟩, (List.forall_mem_cons.mpr ⟨⟨s_new (ci := 4) rfl inX8 tyX8_ok (by decide +kernel) (fun _ _ => rfl) rfl w_216 wi_X8 wz_X8 dX11_init_82, s_mo_new _ _ _⟩, (List.forall_mem_cons.mpr ⟨⟨s_dup dX11_init_85, s_mo_dup _⟩, (List.forall_mem_cons.mpr ⟨⟨s_sI mk_101 mk_71 ok_71 (by decide +kernel) dX11_init_86 rfl w_219 ⟨4, _, _, rfl, rfl⟩ (Or.inr ⟨_, List.mem_of_getElem? (i := 2) rfl⟩), s_h0 mk_101⟩, (List.forall_mem_cons.mpr ⟨⟨s_putAF (ci := 7) (k := 7) rfl (by decide) inX11 tyX11_ok nmX11 rfl rfl rfl (fun _ => rfl) (fun _ => rfl) w_304 dX11_init_89, s_mo_putA _ _ _⟩, (List.forall_mem_cons.mpr ⟨⟨s_ldAn dX11_init_92 rfl, s_mo_ldA _ _⟩, (List.forall_mem_cons.mpr ⟨⟨s_new (ci := 1) rfl inX2 tyX2_ok (by decide +kernel) (fun _ _ => rfl) rfl w_239 wi_X2 wz_X2 dX11_init_93, s_mo_new _ _ _⟩, (List.forall_mem_cons.mpr ⟨⟨s_dup dX11_init_96, s_mo_dup _⟩, (List.forall_mem_cons.mpr ⟨⟨s_sI mk_101 mk_23 ok_23 (by decide +kernel) dX11_init_97 rfl w_242 ⟨1, _, _, rfl, rfl⟩ (Or.inr ⟨_, List.mem_of_getElem? (i := 3) rfl⟩), s_h0 mk_101⟩, (List.forall_mem_cons.mpr ⟨⟨s_putAF (ci := 7) (k := 8) rfl (by decide) inX11 tyX11_ok nmX11 rfl rfl rfl (fun _ => rfl) (fun _ => rfl) w_305 dX11_init_100, s_mo_putA _ _ _⟩, (List.forall_mem_cons.mpr ⟨⟨s_ldAn dX11_init_103 rfl, s_mo_ldA _ _⟩, (List.forall_mem_cons.mpr ⟨⟨s_new (ci := 6) rfl inX10 tyX10_ok (by decide +kernel) (fun _ _ => rfl) rfl w_249 wi_X10 wz_X10 dX11_init_104, s_mo_new _ _ _⟩, (List.forall_mem_cons.mpr ⟨⟨s_dup dX11_init_107, s_mo_dup _⟩, (List.forall_mem_cons.mpr ⟨⟨s_sI mk_101 mk_89 ok_89 (by decide +kernel) dX11_init_108 rfl w_252 ⟨6, _, _, rfl, rfl⟩ (Or.inr ⟨_, List.mem_of_getElem? (i := 4) rfl⟩), s_h0 mk_101⟩, (List.forall_mem_cons.mpr ⟨⟨s_putAF (ci := 7) (k := 9) rfl (by decide) inX11 tyX11_ok nmX11 rfl rfl rfl (fun _ => rfl) (fun _ => rfl) w_306 dX11_init_111, s_mo_putA _ _ _⟩, (List.forall_mem_cons.mpr ⟨⟨s_ldAn dX11_init_114 rfl, s_mo_ldA _ _⟩, (List.forall_mem_cons.mpr ⟨⟨s_new (ci := 3) rfl inX6 tyX6_ok (by decide +kernel) (fun _ _ => rfl) rfl w_283 wi_X6 wz_X6 dX11_init_115, s_mo_new _ _ _⟩, (List.forall_mem_cons.mpr ⟨⟨s_dup dX11_init_118, s_mo_dup _⟩, (List.forall_mem_cons.mpr ⟨⟨s_sI mk_101 mk_58 ok_58 (by decide +kernel) dX11_init_119 rfl w_286 ⟨3, _, _, rfl, rfl⟩ (Or.inr ⟨_, List.mem_of_getElem? (i := 5) rfl⟩), s_h0 mk_101⟩, (List.forall_mem_cons.mpr ⟨⟨s_putAF (ci := 7) (k := 10) rfl (by decide) inX11 tyX11_ok nmX11 rfl rfl rfl (fun _ => rfl) (fun _ => rfl) w_307 dX11_init_122, s_mo_putA _ _ _⟩, (List.forall_mem_cons.mpr ⟨⟨s_ldAn dX11_init_125 rfl, s_mo_ldA _ _⟩, (List.forall_mem_cons.mpr ⟨⟨s_bipush dX11_init_126 (by decide +kernel), s_mo_push _ _⟩, (fun _ h => absurd h List.not_mem_nil)⟩)⟩)⟩)⟩)⟩)⟩)⟩)⟩)⟩)⟩)⟩)⟩)⟩)⟩)⟩)⟩)⟩)⟩)⟩)⟩)⟩)⟩)⟩)⟩)⟩)⟩)⟩)⟩)⟩)
set_option maxRecDepth 20000 in
theorem kb_101_2 : ∀ q ∈ tb_101_2, s_atx 101 yX11_init cX11_init q.1 q.2 := (List.forall_mem_cons.mpr ⟨⟨s_newa (t := 2) (aty := .long) (ty := .long) (by decide) rfl (fun _ => rfl) (fun _ _ h => h) (by decide) (fun _ _ => ⟨_, rfl, rfl⟩) w_arr2 dX11_init_128, s_mo_newa _ _⟩, (List.forall_mem_cons.mpr ⟨⟨s_putAF (ci := 7) (k := 11) rfl (by decide) inX11 tyX11_ok nmX11 rfl rfl rfl (fun _ => rfl) (fun _ => rfl) w_308 dX11_init_130, s_mo_putA _ _ _⟩, (List.forall_mem_cons.mpr ⟨⟨s_ldAn dX11_init_133 rfl, s_mo_ldA _ _⟩, (List.forall_mem_cons.mpr ⟨⟨s_iconst dX11_init_134 (by decide +kernel), s_mo_push _ _⟩, (List.forall_mem_cons.mpr ⟨⟨s_putI (ci := 7) (k := 12) rfl (by decide) inX11 tyX11_ok nmX11 rfl rfl w_309 dX11_init_135, s_mo_putI _ _ _⟩, (List.forall_mem_cons.mpr ⟨⟨s_ldAn dX11_init_138 rfl, s_mo_ldA _ _⟩, (List.forall_mem_cons.mpr ⟨⟨s_iconst dX11_init_139 (by decide +kernel), s_mo_push _ _⟩, (List.forall_mem_cons.mpr ⟨⟨s_putZ (ci := 7) (k := 13) rfl (by decide) inX11 tyX11_ok nmX11 rfl rfl w_310 dX11_init_140, s_mo_putZ _ _ _⟩, (List.forall_mem_cons.mpr ⟨s_r0 mk_101 dX11_init_143, (fun _ h => absurd h List.not_mem_nil)⟩)⟩)⟩)⟩)⟩)⟩)⟩)⟩)⟩)
theorem km_101 : ∀ t ∈ tm_101, s_tok 101 t := (List.forall_mem_cons.mpr ⟨s_lift mk_101 kb_101_0, (List.forall_mem_cons.mpr ⟨s_lift mk_101 kb_101_1, (List.forall_mem_cons.mpr ⟨s_lift mk_101 kb_101_2, (fun _ h => absurd h List.not_mem_nil)⟩)⟩)⟩)
theorem dX11_feed_0 : decode cX11_feed 0 = .ok (.aload_n 0, 1) := by decide +kernel
theorem dX11_feed_1 : decode cX11_feed 1 = .ok (.getfield 38, 3) := by decide +kernel
theorem dX11_feed_4 : decode cX11_feed 4 = .ok (.bipush 20, 2) := by decide +kernel
theorem dX11_feed_6 : decode cX11_feed 6 = .ok (.invokevirtual 82, 3) := by decide +kernel
theorem dX11_feed_9 : decode cX11_feed 9 = .ok (.ifCond .ne 5, 3) := by decide +kernel
theorem dX11_feed_12 : decode cX11_feed 12 = .ok (.iconst (-1), 1) := by decide +kernel
theorem dX11_feed_13 : decode cX11_feed 13 = .ok (.ireturn, 1) := by decide +kernel
theorem dX11_feed_14 : decode cX11_feed 14 = .ok (.aload_n 0, 1) := by decide +kernel
theorem dX11_feed_15 : decode cX11_feed 15 = .ok (.getfield 38, 3) := by decide +kernel
theorem dX11_feed_18 : decode cX11_feed 18 = .ok (.iload_n 1, 1) := by decide +kernel
theorem dX11_feed_19 : decode cX11_feed 19 = .ok (.invokevirtual 86, 3) := by decide +kernel
theorem dX11_feed_22 : decode cX11_feed 22 = .ok (.aload_n 0, 1) := by decide +kernel
theorem dX11_feed_23 : decode cX11_feed 23 = .ok (.getfield 38, 3) := by decide +kernel
theorem dX11_feed_26 : decode cX11_feed 26 = .ok (.iload_n 2, 1) := by decide +kernel
theorem dX11_feed_27 : decode cX11_feed 27 = .ok (.invokevirtual 86, 3) := by decide +kernel
theorem dX11_feed_30 : decode cX11_feed 30 = .ok (.aload_n 0, 1) := by decide +kernel
theorem dX11_feed_31 : decode cX11_feed 31 = .ok (.getfield 38, 3) := by decide +kernel
theorem dX11_feed_34 : decode cX11_feed 34 = .ok (.iload_n 3, 1) := by decide +kernel
theorem dX11_feed_35 : decode cX11_feed 35 = .ok (.invokevirtual 86, 3) := by decide +kernel
theorem dX11_feed_38 : decode cX11_feed 38 = .ok (.aload_n 0, 1) := by decide +kernel
theorem dX11_feed_39 : decode cX11_feed 39 = .ok (.getfield 38, 3) := by decide +kernel
theorem dX11_feed_42 : decode cX11_feed 42 = .ok (.iload 4, 2) := by decide +kernel
theorem dX11_feed_44 : decode cX11_feed 44 = .ok (.invokevirtual 86, 3) := by decide +kernel
theorem dX11_feed_47 : decode cX11_feed 47 = .ok (.aload_n 0, 1) := by decide +kernel
theorem dX11_feed_48 : decode cX11_feed 48 = .ok (.getfield 38, 3) := by decide +kernel
theorem dX11_feed_51 : decode cX11_feed 51 = .ok (.iload 5, 2) := by decide +kernel
theorem dX11_feed_53 : decode cX11_feed 53 = .ok (.invokevirtual 86, 3) := by decide +kernel
theorem dX11_feed_56 : decode cX11_feed 56 = .ok (.aload_n 0, 1) := by decide +kernel
theorem dX11_feed_57 : decode cX11_feed 57 = .ok (.getfield 38, 3) := by decide +kernel
theorem dX11_feed_60 : decode cX11_feed 60 = .ok (.getfield 90, 3) := by decide +kernel
theorem dX11_feed_63 : decode cX11_feed 63 = .ok (.ireturn, 1) := by decide +kernel
set_option maxRecDepth 20000 in
theorem kb_102_0 : ∀ q ∈ tb_102_0, s_atx 102 yX11_feed cX11_feed q.1 q.2 := (List.forall_mem_cons.mpr ⟨⟨s_ldAn dX11_feed_0 rfl, s_mo_ldA _ _⟩, (List.forall_mem_cons.mpr ⟨⟨s_getf (ci := 7) (k := 6) rfl (by decide) inX11 w_303 dX11_feed_1, s_mo_getf _ _ _⟩, (List.forall_mem_cons.mpr ⟨⟨s_bipush dX11_feed_4 (by decide +kernel), s_mo_push _ _⟩, (List.forall_mem_cons.mpr ⟨⟨s_sV mk_102 mk_76 ok_76 (by decide +kernel) dX11_feed_6 w_344 w_345 w_346 (Or.inr ⟨5, _, _, rfl, rfl⟩), s_h0 mk_102⟩, (List.forall_mem_cons.mpr ⟨⟨s_ifne dX11_feed_9 (by decide), s_mo_ifne _ _⟩, (List.forall_mem_cons.mpr ⟨⟨s_iconst dX11_feed_12 (by decide +kernel), s_mo_push _ _⟩, (List.forall_mem_cons.mpr ⟨s_r1 mk_102 dX11_feed_13, (List.forall_mem_cons.mpr ⟨⟨s_ldAn dX11_feed_14 rfl, s_mo_ldA _ _⟩, (List.forall_mem_cons.mpr ⟨⟨s_getf (ci := 7) (k := 6) rfl (by decide) inX11 w_303 dX11_feed_15, s_mo_getf _ _ _⟩, (List.forall_mem_cons.mpr ⟨⟨s_ldIn dX11_feed_18 rfl, s_mo_ldI _ _⟩, (List.forall_mem_cons.mpr ⟨⟨s_sV mk_102 mk_77 ok_77 (by decide +kernel) dX11_feed_19 w_348 w_349 w_350 (Or.inr ⟨5, _, _, rfl, rfl⟩), s_h0 mk_102⟩, (List.forall_mem_cons.mpr ⟨⟨s_ldAn dX11_feed_22 rfl, s_mo_ldA _ _⟩, (List.forall_mem_cons.mpr ⟨⟨s_getf (ci := 7) (k := 6) rfl (by decide) inX11 w_303 dX11_feed_23, s_mo_getf _ _ _⟩, (List.forall_mem_cons.mpr ⟨⟨s_ldIn dX11_feed_26 rfl, s_mo_ldI _ _⟩, (List.forall_mem_cons.mpr ⟨⟨s_sV mk_102 mk_77 ok_77 (by decide +kernel) dX11_feed_27 w_348 w_349 w_350 (Or.inr ⟨5, _, _, rfl, rfl⟩), s_h0 mk_102⟩, (List.forall_mem_cons.mpr ⟨⟨s_ldAn dX11_feed_30 rfl, s_mo_ldA _ _⟩, (List.forall_mem_cons.mpr ⟨⟨s_getf (ci := 7) (k := 6) rfl (by decide) inX11 w_303 dX11_feed_31, s_mo_getf _ _ _⟩, (List.forall_mem_cons.mpr ⟨⟨s_ldIn dX11_feed_34 rfl, s_mo_ldI _ _⟩, (List.forall_mem_cons.mpr ⟨⟨s_sV mk_102 mk_77 ok_77 (by decide +kernel) dX11_feed_35 w_348 w_349 w_350 (Or.inr ⟨5, _, _, rfl, rfl⟩), s_h0 mk_102⟩, (List.forall_mem_cons.mpr ⟨⟨s_ldAn dX11_feed_38 rfl, s_mo_ldA _ _⟩, (List.forall_mem_cons.mpr ⟨⟨s_getf (ci := 7) (k := 6) rfl (by decide) inX11 w_303 dX11_feed_39, s_mo_getf _ _ _⟩, (List.forall_mem_cons.mpr ⟨⟨s_ldI dX11_feed_42, s_mo_ldI _ _⟩, (List.forall_mem_cons.mpr ⟨⟨s_sV mk_102 mk_77 ok_77 (by decide +kernel) dX11_feed_44 w_348 w_349 w_350 (Or.inr ⟨5, _, _, rfl, rfl⟩), s_h0 mk_102⟩, (List.forall_mem_cons.mpr ⟨⟨s_ldAn dX11_feed_47 rfl, s_mo_ldA _ _⟩, (List.forall_mem_cons.mpr ⟨⟨s_getf (ci := 7) (k := 6) rfl (by decide) inX11 w_303 dX11_feed_48, s_mo_getf _ _ _⟩, (List.forall_mem_cons.mpr ⟨⟨s_ldI dX11_feed_51, s_mo_ldI _ _⟩, (List.forall_mem_cons.mpr ⟨⟨s_sV mk_102 mk_77 ok_77 (by decide +kernel) dX11_feed_53 w_348 w_349 w_350 (Or.inr ⟨5, _, _, rfl, rfl⟩), s_h0 mk_102⟩, (List.forall_mem_cons.mpr ⟨⟨s_ldAn dX11_feed_56 rfl, s_mo_ldA _ _⟩, (List.forall_mem_cons.mpr ⟨⟨s_getf (ci := 7) (k := 6) rfl (by decide) inX11 w_303 dX11_feed_57, s_mo_getf _ _ _⟩, (List.forall_mem_cons.mpr ⟨⟨s_getf (ci := 5) (k := 1) rfl (by decide) inX9 w_200 dX11_feed_60, s_mo_getf _ _ _⟩, (List.forall_mem_cons.mpr ⟨s_r1 mk_102 dX11_feed_63, (fun _ h => absurd h List.not_mem_nil)⟩)⟩)⟩)⟩)⟩)⟩)⟩)⟩)⟩)⟩)⟩)⟩)⟩)⟩)⟩)⟩)⟩)⟩)⟩)⟩)⟩)⟩)⟩)⟩)⟩)⟩)⟩)⟩)⟩)⟩)⟩)
theorem km_102 : ∀ t ∈ tm_102, s_tok 102 t := (List.forall_mem_cons.mpr ⟨s_lift mk_102 kb_102_0, (fun _ h => absurd h List.not_mem_nil)⟩)
theorem dX11_end_0 : decode cX11_end 0 = .ok (.iload_n 1, 1) := by decide +kernel
theorem dX11_end_1 : decode cX11_end 1 = .ok (.ifCond .lt 14, 3) := by decide +kernel
theorem dX11_end_4 : decode cX11_end 4 = .ok (.iload_n 1, 1) := by decide +kernel
theorem dX11_end_5 : decode cX11_end 5 = .ok (.aload_n 0, 1) := by decide +kernel
theorem dX11_end_6 : decode cX11_end 6 = .ok (.getfield 38, 3) := by decide +kernel
theorem dX11_end_9 : decode cX11_end 9 = .ok (.getfield 90, 3) := by decide +kernel
theorem dX11_end_12 : decode cX11_end 12 = .ok (.if_icmp .le 5, 3) := by decide +kernel
theorem dX11_end_15 : decode cX11_end 15 = .ok (.iconst 0, 1) := by decide +kernel
theorem dX11_end_16 : decode cX11_end 16 = .ok (.ireturn, 1) := by decide +kernel
theorem dX11_end_17 : decode cX11_end 17 = .ok (.aload_n 0, 1) := by decide +kernel
theorem dX11_end_18 : decode cX11_end 18 = .ok (.getfield 38, 3) := by decide +kernel
theorem dX11_end_21 : decode cX11_end 21 = .ok (.iload_n 1, 1) := by decide +kernel
theorem dX11_end_22 : decode cX11_end 22 = .ok (.putfield 90, 3) := by decide +kernel
theorem dX11_end_25 : decode cX11_end 25 = .ok (.iconst 1, 1) := by decide +kernel
theorem dX11_end_26 : decode cX11_end 26 = .ok (.ireturn, 1) := by decide +kernel
set_option maxRecDepth 20000 in
theorem kb_103_0 : ∀ q ∈ tb_103_0, s_atx 103 yX11_end cX11_end q.1 q.2 := (List.forall_mem_cons.mpr ⟨⟨s_ldIn dX11_end_0 rfl, s_mo_ldI _ _⟩, (List.forall_mem_cons.mpr ⟨⟨s_iflt dX11_end_1 (by decide), s_mo_iflt _ _⟩, (List.forall_mem_cons.mpr ⟨⟨s_ldIn dX11_end_4 rfl, s_mo_ldI _ _⟩, (List.forall_mem_cons.mpr ⟨⟨s_ldAn dX11_end_5 rfl, s_mo_ldA _ _⟩, (List.forall_mem_cons.mpr ⟨⟨s_getf (ci := 7) (k := 6) rfl (by decide) inX11 w_303 dX11_end_6, s_mo_getf _ _ _⟩, (List.forall_mem_cons.mpr ⟨⟨s_getf (ci := 5) (k := 1) rfl (by decide) inX9 w_200 dX11_end_9, s_mo_getf _ _ _⟩, (List.forall_mem_cons.mpr ⟨⟨s_icle dX11_end_12 (by decide), s_mo_icle _ _⟩, (List.forall_mem_cons.mpr ⟨⟨s_iconst dX11_end_15 (by decide +kernel), s_mo_push _ _⟩, (List.forall_mem_cons.mpr ⟨s_r2 mk_103 dX11_end_16, (List.forall_mem_cons.mpr ⟨⟨s_ldAn dX11_end_17 rfl, s_mo_ldA _ _⟩, (List.forall_mem_cons.mpr ⟨⟨s_getf (ci := 7) (k := 6) rfl (by decide) inX11 w_303 dX11_end_18, s_mo_getf _ _ _⟩, (List.forall_mem_cons.mpr ⟨⟨s_ldIn dX11_end_21 rfl, s_mo_ldI _ _⟩, (List.forall_mem_cons.mpr ⟨⟨s_putI (ci := 5) (k := 1) rfl (by decide) inX9 tyX9_ok nmX9 rfl rfl w_200 dX11_end_22, s_mo_putI _ _ _⟩, (List.forall_mem_cons.mpr ⟨⟨s_iconst dX11_end_25 (by decide +kernel), s_mo_push _ _⟩, (List.forall_mem_cons.mpr ⟨s_r2 mk_103 dX11_end_26, (fun _ h => absurd h List.not_mem_nil)⟩)⟩)⟩)⟩)⟩)⟩)⟩)⟩)⟩)⟩)⟩)⟩)⟩)⟩)⟩)
theorem km_103 : ∀ t ∈ tm_103, s_tok 103 t := (List.forall_mem_cons.mpr ⟨s_lift mk_103 kb_103_0, (fun _ h => absurd h List.not_mem_nil)⟩)
theorem dX11_city_0 : decode cX11_city 0 = .ok (.aload_n 0, 1) := by decide +kernel
theorem dX11_city_1 : decode cX11_city 1 = .ok (.getfield 16, 3) := by decide +kernel
theorem dX11_city_4 : decode cX11_city 4 = .ok (.aload_n 0, 1) := by decide +kernel
theorem dX11_city_5 : decode cX11_city 5 = .ok (.getfield 10, 3) := by decide +kernel
theorem dX11_city_8 : decode cX11_city 8 = .ok (.invokevirtual 93, 3) := by decide +kernel
theorem dX11_city_11 : decode cX11_city 11 = .ok (.aload_n 0, 1) := by decide +kernel
theorem dX11_city_12 : decode cX11_city 12 = .ok (.getfield 38, 3) := by decide +kernel
theorem dX11_city_15 : decode cX11_city 15 = .ok (.invokevirtual 97, 3) := by decide +kernel
theorem dX11_city_18 : decode cX11_city 18 = .ok (.aload_n 0, 1) := by decide +kernel
theorem dX11_city_19 : decode cX11_city 19 = .ok (.getfield 38, 3) := by decide +kernel
theorem dX11_city_22 : decode cX11_city 22 = .ok (.aload_n 0, 1) := by decide +kernel
theorem dX11_city_23 : decode cX11_city 23 = .ok (.getfield 16, 3) := by decide +kernel
theorem dX11_city_26 : decode cX11_city 26 = .ok (.invokestatic 100, 3) := by decide +kernel
theorem dX11_city_29 : decode cX11_city 29 = .ok (.istore_n 1, 1) := by decide +kernel
theorem dX11_city_30 : decode cX11_city 30 = .ok (.aload_n 0, 1) := by decide +kernel
theorem dX11_city_31 : decode cX11_city 31 = .ok (.aload_n 0, 1) := by decide +kernel
theorem dX11_city_32 : decode cX11_city 32 = .ok (.getfield 38, 3) := by decide +kernel
theorem dX11_city_35 : decode cX11_city 35 = .ok (.invokevirtual 106, 3) := by decide +kernel
theorem dX11_city_38 : decode cX11_city 38 = .ok (.putfield 74, 3) := by decide +kernel
theorem dX11_city_41 : decode cX11_city 41 = .ok (.iload_n 1, 1) := by decide +kernel
theorem dX11_city_42 : decode cX11_city 42 = .ok (.ifCond .ne 11, 3) := by decide +kernel
theorem dX11_city_45 : decode cX11_city 45 = .ok (.new 110, 3) := by decide +kernel
theorem dX11_city_48 : decode cX11_city 48 = .ok (.dup, 1) := by decide +kernel
theorem dX11_city_49 : decode cX11_city 49 = .ok (.invokespecial 112, 3) := by decide +kernel
theorem dX11_city_52 : decode cX11_city 52 = .ok (.athrow, 1) := by decide +kernel
theorem dX11_city_53 : decode cX11_city 53 = .ok (.aload_n 0, 1) := by decide +kernel
theorem dX11_city_54 : decode cX11_city 54 = .ok (.getfield 10, 3) := by decide +kernel
theorem dX11_city_57 : decode cX11_city 57 = .ok (.getfield 113, 3) := by decide +kernel
theorem dX11_city_60 : decode cX11_city 60 = .ok (.bipush 10, 2) := by decide +kernel
theorem dX11_city_62 : decode cX11_city 62 = .ok (.if_icmp .lt 11, 3) := by decide +kernel
theorem dX11_city_65 : decode cX11_city 65 = .ok (.new 116, 3) := by decide +kernel
theorem dX11_city_68 : decode cX11_city 68 = .ok (.dup, 1) := by decide +kernel
theorem dX11_city_69 : decode cX11_city 69 = .ok (.invokespecial 118, 3) := by decide +kernel
theorem dX11_city_72 : decode cX11_city 72 = .ok (.athrow, 1) := by decide +kernel
theorem dX11_city_73 : decode cX11_city 73 = .ok (.aload_n 0, 1) := by decide +kernel
theorem dX11_city_74 : decode cX11_city 74 = .ok (.getfield 10, 3) := by decide +kernel
theorem dX11_city_77 : decode cX11_city 77 = .ok (.astore_n 2, 1) := by decide +kernel
theorem dX11_city_78 : decode cX11_city 78 = .ok (.aload_n 0, 1) := by decide +kernel
theorem dX11_city_79 : decode cX11_city 79 = .ok (.aload_n 0, 1) := by decide +kernel
theorem dX11_city_80 : decode cX11_city 80 = .ok (.getfield 16, 3) := by decide +kernel
theorem dX11_city_83 : decode cX11_city 83 = .ok (.putfield 10, 3) := by decide +kernel
theorem dX11_city_86 : decode cX11_city 86 = .ok (.aload_n 0, 1) := by decide +kernel
theorem dX11_city_87 : decode cX11_city 87 = .ok (.aload_n 2, 1) := by decide +kernel
theorem dX11_city_88 : decode cX11_city 88 = .ok (.putfield 16, 3) := by decide +kernel
theorem dX11_city_91 : decode cX11_city 91 = .ok (.aload_n 0, 1) := by decide +kernel
theorem dX11_city_92 : decode cX11_city 92 = .ok (.getfield 10, 3) := by decide +kernel
theorem dX11_city_95 : decode cX11_city 95 = .ok (.dup, 1) := by decide +kernel
theorem dX11_city_96 : decode cX11_city 96 = .ok (.getfield 113, 3) := by decide +kernel
theorem dX11_city_99 : decode cX11_city 99 = .ok (.iconst 1, 1) := by decide +kernel
theorem dX11_city_100 : decode cX11_city 100 = .ok (.iadd, 1) := by decide +kernel
theorem dX11_city_101 : decode cX11_city 101 = .ok (.putfield 113, 3) := by decide +kernel
theorem dX11_city_104 : decode cX11_city 104 = .ok (.aload_n 0, 1) := by decide +kernel
theorem dX11_city_105 : decode cX11_city 105 = .ok (.getfield 45, 3) := by decide +kernel
theorem dX11_city_108 : decode cX11_city 108 = .ok (.invokevirtual 119, 3) := by decide +kernel
theorem dX11_city_111 : decode cX11_city 111 = .ok (.aload_n 0, 1) := by decide +kernel
theorem dX11_city_112 : decode cX11_city 112 = .ok (.getfield 10, 3) := by decide +kernel
theorem dX11_city_115 : decode cX11_city 115 = .ok (.getfield 113, 3) := by decide +kernel
theorem dX11_city_118 : decode cX11_city 118 = .ok (.ireturn, 1) := by decide +kernel
set_option maxRecDepth 20000 in
theorem kb_104_0 : ∀ q ∈ tb_104_0, s_atx 104 yX11_city cX11_city q.1 q.2 := (List.forall_mem_cons.mpr ⟨⟨s_ldAn dX11_city_0 rfl, s_mo_ldA _ _⟩, (List.forall_mem_cons.mpr ⟨⟨s_getf (ci := 7) (k := 1) rfl (by decide) inX11 w_298 dX11_city_1, s_mo_getf _ _ _⟩, (List.forall_mem_cons.mpr ⟨⟨s_ldAn dX11_city_4 rfl, s_mo_ldA _ _⟩, (List.forall_mem_cons.mpr ⟨⟨s_getf (ci := 7) (k := 0) rfl (by decide) inX11 w_297 dX11_city_5, s_mo_getf _ _ _⟩, (List.forall_mem_cons.mpr ⟨⟨s_sV mk_104 mk_2 ok_2 (by decide +kernel) dX11_city_8 w_460 w_461 w_462 (Or.inr ⟨0, _, _, rfl, rfl⟩), s_h0 mk_104⟩, (List.forall_mem_cons.mpr ⟨⟨s_ldAn dX11_city_11 rfl, s_mo_ldA _ _⟩, (List.forall_mem_cons.mpr ⟨⟨s_getf (ci := 7) (k := 6) rfl (by decide) inX11 w_303 dX11_city_12, s_mo_getf _ _ _⟩, (List.forall_mem_cons.mpr ⟨⟨s_sV mk_104 mk_78 ok_78 (by decide +kernel) dX11_city_15 w_496 w_497 w_498 (Or.inr ⟨5, _, _, rfl, rfl⟩), s_h0 mk_104⟩, (List.forall_mem_cons.mpr ⟨⟨s_ldAn dX11_city_18 rfl, s_mo_ldA _ _⟩, (List.forall_mem_cons.mpr ⟨⟨s_getf (ci := 7) (k := 6) rfl (by decide) inX11 w_303 dX11_city_19, s_mo_getf _ _ _⟩, (List.forall_mem_cons.mpr ⟨⟨s_ldAn dX11_city_22 rfl, s_mo_ldA _ _⟩, (List.forall_mem_cons.mpr ⟨⟨s_getf (ci := 7) (k := 1) rfl (by decide) inX11 w_298 dX11_city_23, s_mo_getf _ _ _⟩, (List.forall_mem_cons.mpr ⟨⟨s_sS mk_104 mk_16 ok_16 (by decide +kernel) dX11_city_26 w_500 w_501, s_h0 mk_104⟩, (List.forall_mem_cons.mpr ⟨⟨s_stIn dX11_city_29 rfl, s_mo_stI _ _⟩, (List.forall_mem_cons.mpr ⟨⟨s_ldAn dX11_city_30 rfl, s_mo_ldA _ _⟩, (List.forall_mem_cons.mpr ⟨⟨s_ldAn dX11_city_31 rfl, s_mo_ldA _ _⟩, (List.forall_mem_cons.mpr ⟨⟨s_getf (ci := 7) (k := 6) rfl (by decide) inX11 w_303 dX11_city_32, s_mo_getf _ _ _⟩, (List.forall_mem_cons.mpr ⟨⟨s_sV mk_104 mk_79 ok_79 (by decide +kernel) dX11_city_35 w_616 w_617 w_618 (Or.inr ⟨5, _, _, rfl, rfl⟩), s_h0 mk_104⟩, (List.forall_mem_cons.mpr ⟨⟨s_putI (ci := 7) (k := 12) rfl (by decide) inX11 tyX11_ok nmX11 rfl rfl w_309 dX11_city_38, s_mo_putI _ _ _⟩, (List.forall_mem_cons.mpr ⟨⟨s_ldIn dX11_city_41 rfl, s_mo_ldI _ _⟩, (List.forall_mem_cons.mpr ⟨⟨s_ifne dX11_city_42 (by decide), s_mo_ifne _ _⟩, (List.forall_mem_cons.mpr ⟨s_t mk_104 dX11_city_45 dX11_city_48 dX11_city_49 dX11_city_52 (by decide +kernel) w_620 w_20 x_GlassCity_112g x_GlassCity_112b x_GlassCity_112o, (List.forall_mem_cons.mpr ⟨⟨s_ldAn dX11_city_53 rfl, s_mo_ldA _ _⟩, (List.forall_mem_cons.mpr ⟨⟨s_getf (ci := 7) (k := 0) rfl (by decide) inX11 w_297 dX11_city_54, s_mo_getf _ _ _⟩, (List.forall_mem_cons.mpr ⟨⟨s_getf (ci := 0) (k := 17) rfl (by decide) inX0 w_121 dX11_city_57, s_mo_getf _ _ _⟩, (List.forall_mem_cons.mpr ⟨⟨s_bipush dX11_city_60 (by decide +kernel), s_mo_push _ _⟩, (List.forall_mem_cons.mpr ⟨⟨s_iclt dX11_city_62 (by decide), s_mo_iclt _ _⟩, (fun _ h => absurd h List.not_mem_nil)⟩)⟩)⟩)⟩)⟩)⟩)⟩)⟩)⟩)⟩)⟩)⟩)⟩)⟩)⟩)⟩)⟩)⟩)⟩)⟩)⟩)⟩)⟩)⟩)⟩)⟩)⟩)
set_option maxRecDepth 20000 in
theorem kb_104_1 : ∀ q ∈ tb_104_1, s_atx 104 yX11_city cX11_city q.1 q.2 := (List.forall_mem_cons.mpr ⟨s_t mk_104 dX11_city_65 dX11_city_68 dX11_city_69 dX11_city_72 (by decide +kernel) w_684 w_21 x_GlassCity_118g x_GlassCity_118b x_GlassCity_118o, (List.forall_mem_cons.mpr ⟨⟨s_ldAn dX11_city_73 rfl, s_mo_ldA _ _⟩, (List.forall_mem_cons.mpr ⟨⟨s_getf (ci := 7) (k := 0) rfl (by decide) inX11 w_297 dX11_city_74, s_mo_getf _ _ _⟩, (List.forall_mem_cons.mpr ⟨⟨s_stAn dX11_city_77 rfl, s_mo_stA _ _⟩, (List.forall_mem_cons.mpr ⟨⟨s_ldAn dX11_city_78 rfl, s_mo_ldA _ _⟩, (List.forall_mem_cons.mpr ⟨⟨s_ldAn dX11_city_79 rfl, s_mo_ldA _ _⟩, (List.forall_mem_cons.mpr ⟨⟨s_getf (ci := 7) (k := 1) rfl (by decide) inX11 w_298 dX11_city_80, s_mo_getf _ _ _⟩, (List.forall_mem_cons.mpr ⟨⟨s_putA (ci := 7) (k := 0) rfl (by decide) inX11 tyX11_ok nmX11 rfl (fun _ => rfl) (fun _ => rfl) w_297 dX11_city_83, s_mo_putA _ _ _⟩, (List.forall_mem_cons.mpr ⟨⟨s_ldAn dX11_city_86 rfl, s_mo_ldA _ _⟩, (List.forall_mem_cons.mpr ⟨⟨s_ldAn dX11_city_87 rfl, s_mo_ldA _ _⟩, (List.forall_mem_cons.mpr ⟨⟨s_putA (ci := 7) (k := 1) rfl (by decide) inX11 tyX11_ok nmX11 rfl (fun _ => rfl) (fun _ => rfl) w_298 dX11_city_88, s_mo_putA _ _ _⟩, (List.forall_mem_cons.mpr ⟨⟨s_ldAn dX11_city_91 rfl, s_mo_ldA _ _⟩, (List.forall_mem_cons.mpr ⟨⟨s_getf (ci := 7) (k := 0) rfl (by decide) inX11 w_297 dX11_city_92, s_mo_getf _ _ _⟩, (List.forall_mem_cons.mpr ⟨⟨s_dup dX11_city_95, s_mo_dup _⟩, (List.forall_mem_cons.mpr ⟨⟨s_getf (ci := 0) (k := 17) rfl (by decide) inX0 w_121 dX11_city_96, s_mo_getf _ _ _⟩, (List.forall_mem_cons.mpr ⟨⟨s_iconst dX11_city_99 (by decide +kernel), s_mo_push _ _⟩, (List.forall_mem_cons.mpr ⟨⟨s_iadd dX11_city_100, s_mo_bin _ _⟩, (List.forall_mem_cons.mpr ⟨⟨s_putI (ci := 0) (k := 17) rfl (by decide) inX0 tyX0_ok nmX0 rfl rfl w_121 dX11_city_101, s_mo_putI _ _ _⟩, (List.forall_mem_cons.mpr ⟨⟨s_ldAn dX11_city_104 rfl, s_mo_ldA _ _⟩, (List.forall_mem_cons.mpr ⟨⟨s_getf (ci := 7) (k := 7) rfl (by decide) inX11 w_304 dX11_city_105, s_mo_getf _ _ _⟩, (List.forall_mem_cons.mpr ⟨⟨s_sV mk_104 mk_72 ok_72 (by decide +kernel) dX11_city_108 w_474 w_475 w_476 (Or.inr ⟨4, _, _, rfl, rfl⟩), s_h0 mk_104⟩, (List.forall_mem_cons.mpr ⟨⟨s_ldAn dX11_city_111 rfl, s_mo_ldA _ _⟩, (List.forall_mem_cons.mpr ⟨⟨s_getf (ci := 7) (k := 0) rfl (by decide) inX11 w_297 dX11_city_112, s_mo_getf _ _ _⟩, (List.forall_mem_cons.mpr ⟨⟨s_getf (ci := 0) (k := 17) rfl (by decide) inX0 w_121 dX11_city_115, s_mo_getf _ _ _⟩, (List.forall_mem_cons.mpr ⟨s_r1 mk_104 dX11_city_118, (fun _ h => absurd h List.not_mem_nil)⟩)⟩)⟩)⟩)⟩)⟩)⟩)⟩)⟩)⟩)⟩)⟩)⟩)⟩)⟩)⟩)⟩)⟩)⟩)⟩)⟩)⟩)⟩)⟩)⟩)
theorem km_104 : ∀ t ∈ tm_104, s_tok 104 t := (List.forall_mem_cons.mpr ⟨s_lift mk_104 kb_104_0, (List.forall_mem_cons.mpr ⟨s_lift mk_104 kb_104_1, (fun _ h => absurd h List.not_mem_nil)⟩)⟩)
theorem dX11_shame_0 : decode cX11_shame 0 = .ok (.aload_n 0, 1) := by decide +kernel
theorem dX11_shame_1 : decode cX11_shame 1 = .ok (.getfield 38, 3) := by decide +kernel
theorem dX11_shame_4 : decode cX11_shame 4 = .ok (.invokevirtual 97, 3) := by decide +kernel
theorem dX11_shame_7 : decode cX11_shame 7 = .ok (.aload_n 0, 1) := by decide +kernel
theorem dX11_shame_8 : decode cX11_shame 8 = .ok (.getfield 29, 3) := by decide +kernel
theorem dX11_shame_11 : decode cX11_shame 11 = .ok (.aload_n 0, 1) := by decide +kernel
theorem dX11_shame_12 : decode cX11_shame 12 = .ok (.getfield 38, 3) := by decide +kernel
theorem dX11_shame_15 : decode cX11_shame 15 = .ok (.invokevirtual 122, 3) := by decide +kernel
theorem dX11_shame_18 : decode cX11_shame 18 = .ok (.istore_n 1, 1) := by decide +kernel
theorem dX11_shame_19 : decode cX11_shame 19 = .ok (.aload_n 0, 1) := by decide +kernel
theorem dX11_shame_20 : decode cX11_shame 20 = .ok (.aload_n 0, 1) := by decide +kernel
theorem dX11_shame_21 : decode cX11_shame 21 = .ok (.getfield 38, 3) := by decide +kernel
theorem dX11_shame_24 : decode cX11_shame 24 = .ok (.invokevirtual 106, 3) := by decide +kernel
theorem dX11_shame_27 : decode cX11_shame 27 = .ok (.putfield 74, 3) := by decide +kernel
theorem dX11_shame_30 : decode cX11_shame 30 = .ok (.iload_n 1, 1) := by decide +kernel
theorem dX11_shame_31 : decode cX11_shame 31 = .ok (.ifCond .ne 11, 3) := by decide +kernel
theorem dX11_shame_34 : decode cX11_shame 34 = .ok (.new 110, 3) := by decide +kernel
theorem dX11_shame_37 : decode cX11_shame 37 = .ok (.dup, 1) := by decide +kernel
theorem dX11_shame_38 : decode cX11_shame 38 = .ok (.invokespecial 112, 3) := by decide +kernel
theorem dX11_shame_41 : decode cX11_shame 41 = .ok (.athrow, 1) := by decide +kernel
theorem dX11_shame_42 : decode cX11_shame 42 = .ok (.aload_n 0, 1) := by decide +kernel
theorem dX11_shame_43 : decode cX11_shame 43 = .ok (.getfield 25, 3) := by decide +kernel
theorem dX11_shame_46 : decode cX11_shame 46 = .ok (.astore_n 2, 1) := by decide +kernel
theorem dX11_shame_47 : decode cX11_shame 47 = .ok (.aload_n 0, 1) := by decide +kernel
theorem dX11_shame_48 : decode cX11_shame 48 = .ok (.aload_n 0, 1) := by decide +kernel
theorem dX11_shame_49 : decode cX11_shame 49 = .ok (.getfield 29, 3) := by decide +kernel
theorem dX11_shame_52 : decode cX11_shame 52 = .ok (.putfield 25, 3) := by decide +kernel
theorem dX11_shame_55 : decode cX11_shame 55 = .ok (.aload_n 0, 1) := by decide +kernel
theorem dX11_shame_56 : decode cX11_shame 56 = .ok (.aload_n 2, 1) := by decide +kernel
theorem dX11_shame_57 : decode cX11_shame 57 = .ok (.putfield 29, 3) := by decide +kernel
theorem dX11_shame_60 : decode cX11_shame 60 = .ok (.aload_n 0, 1) := by decide +kernel
theorem dX11_shame_61 : decode cX11_shame 61 = .ok (.getfield 25, 3) := by decide +kernel
theorem dX11_shame_64 : decode cX11_shame 64 = .ok (.getfield 125, 3) := by decide +kernel
theorem dX11_shame_67 : decode cX11_shame 67 = .ok (.ireturn, 1) := by decide +kernel
set_option maxRecDepth 20000 in
theorem kb_105_0 : ∀ q ∈ tb_105_0, s_atx 105 yX11_shame cX11_shame q.1 q.2 := (List.forall_mem_cons.mpr ⟨⟨s_ldAn dX11_shame_0 rfl, s_mo_ldA _ _⟩, (List.forall_mem_cons.mpr ⟨⟨s_getf (ci := 7) (k := 6) rfl (by decide) inX11 w_303 dX11_shame_1, s_mo_getf _ _ _⟩, (List.forall_mem_cons.mpr ⟨⟨s_sV mk_105 mk_78 ok_78 (by decide +kernel) dX11_shame_4 w_496 w_497 w_498 (Or.inr ⟨5, _, _, rfl, rfl⟩), s_h0 mk_105⟩, (List.forall_mem_cons.mpr ⟨⟨s_ldAn dX11_shame_7 rfl, s_mo_ldA _ _⟩, (List.forall_mem_cons.mpr ⟨⟨s_getf (ci := 7) (k := 4) rfl (by decide) inX11 w_301 dX11_shame_8, s_mo_getf _ _ _⟩, (List.forall_mem_cons.mpr ⟨⟨s_ldAn dX11_shame_11 rfl, s_mo_ldA _ _⟩, (List.forall_mem_cons.mpr ⟨⟨s_getf (ci := 7) (k := 6) rfl (by decide) inX11 w_303 dX11_shame_12, s_mo_getf _ _ _⟩, (List.forall_mem_cons.mpr ⟨⟨s_sV mk_105 mk_51 ok_51 (by decide +kernel) dX11_shame_15 w_706 w_707 w_708 (Or.inr ⟨2, _, _, rfl, rfl⟩), s_h0 mk_105⟩, (List.forall_mem_cons.mpr ⟨⟨s_stIn dX11_shame_18 rfl, s_mo_stI _ _⟩, (List.forall_mem_cons.mpr ⟨⟨s_ldAn dX11_shame_19 rfl, s_mo_ldA _ _⟩, (List.forall_mem_cons.mpr ⟨⟨s_ldAn dX11_shame_20 rfl, s_mo_ldA _ _⟩, (List.forall_mem_cons.mpr ⟨⟨s_getf (ci := 7) (k := 6) rfl (by decide) inX11 w_303 dX11_shame_21, s_mo_getf _ _ _⟩, (List.forall_mem_cons.mpr ⟨⟨s_sV mk_105 mk_79 ok_79 (by decide +kernel) dX11_shame_24 w_616 w_617 w_618 (Or.inr ⟨5, _, _, rfl, rfl⟩), s_h0 mk_105⟩, (List.forall_mem_cons.mpr ⟨⟨s_putI (ci := 7) (k := 12) rfl (by decide) inX11 tyX11_ok nmX11 rfl rfl w_309 dX11_shame_27, s_mo_putI _ _ _⟩, (List.forall_mem_cons.mpr ⟨⟨s_ldIn dX11_shame_30 rfl, s_mo_ldI _ _⟩, (List.forall_mem_cons.mpr ⟨⟨s_ifne dX11_shame_31 (by decide), s_mo_ifne _ _⟩, (List.forall_mem_cons.mpr ⟨s_t mk_105 dX11_shame_34 dX11_shame_37 dX11_shame_38 dX11_shame_41 (by decide +kernel) w_620 w_20 x_GlassCity_112g x_GlassCity_112b x_GlassCity_112o, (List.forall_mem_cons.mpr ⟨⟨s_ldAn dX11_shame_42 rfl, s_mo_ldA _ _⟩, (List.forall_mem_cons.mpr ⟨⟨s_getf (ci := 7) (k := 3) rfl (by decide) inX11 w_300 dX11_shame_43, s_mo_getf _ _ _⟩, (List.forall_mem_cons.mpr ⟨⟨s_stAn dX11_shame_46 rfl, s_mo_stA _ _⟩, (List.forall_mem_cons.mpr ⟨⟨s_ldAn dX11_shame_47 rfl, s_mo_ldA _ _⟩, (List.forall_mem_cons.mpr ⟨⟨s_ldAn dX11_shame_48 rfl, s_mo_ldA _ _⟩, (List.forall_mem_cons.mpr ⟨⟨s_getf (ci := 7) (k := 4) rfl (by decide) inX11 w_301 dX11_shame_49, s_mo_getf _ _ _⟩, (List.forall_mem_cons.mpr ⟨⟨s_putA (ci := 7) (k := 3) rfl (by decide) inX11 tyX11_ok nmX11 rfl (fun _ => rfl) (fun _ => rfl) w_300 dX11_shame_52, s_mo_putA _ _ _⟩, (List.forall_mem_cons.mpr ⟨⟨s_ldAn dX11_shame_55 rfl, s_mo_ldA _ _⟩, (List.forall_mem_cons.mpr ⟨⟨s_ldAn dX11_shame_56 rfl, s_mo_ldA _ _⟩, (List.forall_mem_cons.mpr ⟨⟨s_putA (ci := 7) (k := 4) rfl (by decide) inX11 tyX11_ok nmX11 rfl (fun _ => rfl) (fun _ => rfl) w_301 dX11_shame_57, s_mo_putA _ _ _⟩, (List.forall_mem_cons.mpr ⟨⟨s_ldAn dX11_shame_60 rfl, s_mo_ldA _ _⟩, (List.forall_mem_cons.mpr ⟨⟨s_getf (ci := 7) (k := 3) rfl (by decide) inX11 w_300 dX11_shame_61, s_mo_getf _ _ _⟩, (fun _ h => absurd h List.not_mem_nil)⟩)⟩)⟩)⟩)⟩)⟩)⟩)⟩)⟩)⟩)⟩)⟩)⟩)⟩)⟩)⟩)⟩)⟩)⟩)⟩)⟩)⟩)⟩)⟩)⟩)⟩)⟩)⟩)⟩)
set_option maxRecDepth 20000 in
theorem kb_105_1 : ∀ q ∈ tb_105_1, s_atx 105 yX11_shame cX11_shame q.1 q.2 := (List.forall_mem_cons.mpr ⟨⟨s_getf (ci := 2) (k := 0) rfl (by decide) inX5 w_167 dX11_shame_64, s_mo_getf _ _ _⟩, (List.forall_mem_cons.mpr ⟨s_r1 mk_105 dX11_shame_67, (fun _ h => absurd h List.not_mem_nil)⟩)⟩)
theorem km_105 : ∀ t ∈ tm_105, s_tok 105 t := (List.forall_mem_cons.mpr ⟨s_lift mk_105 kb_105_0, (List.forall_mem_cons.mpr ⟨s_lift mk_105 kb_105_1, (fun _ h => absurd h List.not_mem_nil)⟩)⟩)
theorem dX11_fault_0 : decode cX11_fault 0 = .ok (.aload_n 0, 1) := by decide +kernel
theorem dX11_fault_1 : decode cX11_fault 1 = .ok (.getfield 74, 3) := by decide +kernel
theorem dX11_fault_4 : decode cX11_fault 4 = .ok (.ireturn, 1) := by decide +kernel
set_option maxRecDepth 20000 in
theorem kb_106_0 : ∀ q ∈ tb_106_0, s_atx 106 yX11_fault cX11_fault q.1 q.2 := (List.forall_mem_cons.mpr ⟨⟨s_ldAn dX11_fault_0 rfl, s_mo_ldA _ _⟩, (List.forall_mem_cons.mpr ⟨⟨s_getf (ci := 7) (k := 12) rfl (by decide) inX11 w_309 dX11_fault_1, s_mo_getf _ _ _⟩, (List.forall_mem_cons.mpr ⟨s_r1 mk_106 dX11_fault_4, (fun _ h => absurd h List.not_mem_nil)⟩)⟩)⟩)
theorem km_106 : ∀ t ∈ tm_106, s_tok 106 t := (List.forall_mem_cons.mpr ⟨s_lift mk_106 kb_106_0, (fun _ h => absurd h List.not_mem_nil)⟩)
theorem dX11_pane_0 : decode cX11_pane 0 = .ok (.aload_n 0, 1) := by decide +kernel
theorem dX11_pane_1 : decode cX11_pane 1 = .ok (.iload_n 1, 1) := by decide +kernel
theorem dX11_pane_2 : decode cX11_pane 2 = .ok (.invokevirtual 128, 3) := by decide +kernel
theorem dX11_pane_5 : decode cX11_pane 5 = .ok (.iload_n 2, 1) := by decide +kernel
theorem dX11_pane_6 : decode cX11_pane 6 = .ok (.tableswitch 111 0 6 #[42, 52, 62, 72, 82, 92, 102], 42) := by decide +kernel
theorem dX11_pane_48 : decode cX11_pane 48 = .ok (.aload_n 0, 1) := by decide +kernel
theorem dX11_pane_49 : decode cX11_pane 49 = .ok (.getfield 10, 3) := by decide +kernel
theorem dX11_pane_52 : decode cX11_pane 52 = .ok (.getfield 131, 3) := by decide +kernel
theorem dX11_pane_55 : decode cX11_pane 55 = .ok (.iload_n 1, 1) := by decide +kernel
theorem dX11_pane_56 : decode cX11_pane 56 = .ok (.iaload, 1) := by decide +kernel
theorem dX11_pane_57 : decode cX11_pane 57 = .ok (.ireturn, 1) := by decide +kernel
theorem dX11_pane_58 : decode cX11_pane 58 = .ok (.aload_n 0, 1) := by decide +kernel
theorem dX11_pane_59 : decode cX11_pane 59 = .ok (.getfield 10, 3) := by decide +kernel
theorem dX11_pane_62 : decode cX11_pane 62 = .ok (.getfield 135, 3) := by decide +kernel
theorem dX11_pane_65 : decode cX11_pane 65 = .ok (.iload_n 1, 1) := by decide +kernel
theorem dX11_pane_66 : decode cX11_pane 66 = .ok (.iaload, 1) := by decide +kernel
theorem dX11_pane_67 : decode cX11_pane 67 = .ok (.ireturn, 1) := by decide +kernel
theorem dX11_pane_68 : decode cX11_pane 68 = .ok (.aload_n 0, 1) := by decide +kernel
theorem dX11_pane_69 : decode cX11_pane 69 = .ok (.getfield 10, 3) := by decide +kernel
theorem dX11_pane_72 : decode cX11_pane 72 = .ok (.getfield 138, 3) := by decide +kernel
theorem dX11_pane_75 : decode cX11_pane 75 = .ok (.iload_n 1, 1) := by decide +kernel
theorem dX11_pane_76 : decode cX11_pane 76 = .ok (.iaload, 1) := by decide +kernel
theorem dX11_pane_77 : decode cX11_pane 77 = .ok (.ireturn, 1) := by decide +kernel
theorem dX11_pane_78 : decode cX11_pane 78 = .ok (.aload_n 0, 1) := by decide +kernel
theorem dX11_pane_79 : decode cX11_pane 79 = .ok (.getfield 10, 3) := by decide +kernel
theorem dX11_pane_82 : decode cX11_pane 82 = .ok (.getfield 141, 3) := by decide +kernel
theorem dX11_pane_85 : decode cX11_pane 85 = .ok (.iload_n 1, 1) := by decide +kernel
theorem dX11_pane_86 : decode cX11_pane 86 = .ok (.iaload, 1) := by decide +kernel
theorem dX11_pane_87 : decode cX11_pane 87 = .ok (.ireturn, 1) := by decide +kernel
theorem dX11_pane_88 : decode cX11_pane 88 = .ok (.aload_n 0, 1) := by decide +kernel
theorem dX11_pane_89 : decode cX11_pane 89 = .ok (.getfield 10, 3) := by decide +kernel
theorem dX11_pane_92 : decode cX11_pane 92 = .ok (.getfield 144, 3) := by decide +kernel
theorem dX11_pane_95 : decode cX11_pane 95 = .ok (.iload_n 1, 1) := by decide +kernel
theorem dX11_pane_96 : decode cX11_pane 96 = .ok (.iaload, 1) := by decide +kernel
theorem dX11_pane_97 : decode cX11_pane 97 = .ok (.ireturn, 1) := by decide +kernel
theorem dX11_pane_98 : decode cX11_pane 98 = .ok (.aload_n 0, 1) := by decide +kernel
theorem dX11_pane_99 : decode cX11_pane 99 = .ok (.getfield 10, 3) := by decide +kernel
theorem dX11_pane_102 : decode cX11_pane 102 = .ok (.getfield 147, 3) := by decide +kernel
theorem dX11_pane_105 : decode cX11_pane 105 = .ok (.iload_n 1, 1) := by decide +kernel
theorem dX11_pane_106 : decode cX11_pane 106 = .ok (.iaload, 1) := by decide +kernel
theorem dX11_pane_107 : decode cX11_pane 107 = .ok (.ireturn, 1) := by decide +kernel
theorem dX11_pane_108 : decode cX11_pane 108 = .ok (.aload_n 0, 1) := by decide +kernel
theorem dX11_pane_109 : decode cX11_pane 109 = .ok (.getfield 10, 3) := by decide +kernel
theorem dX11_pane_112 : decode cX11_pane 112 = .ok (.iload_n 1, 1) := by decide +kernel
theorem dX11_pane_113 : decode cX11_pane 113 = .ok (.invokevirtual 150, 3) := by decide +kernel
theorem dX11_pane_116 : decode cX11_pane 116 = .ok (.ireturn, 1) := by decide +kernel
theorem dX11_pane_117 : decode cX11_pane 117 = .ok (.new 154, 3) := by decide +kernel
theorem dX11_pane_120 : decode cX11_pane 120 = .ok (.dup, 1) := by decide +kernel
theorem dX11_pane_121 : decode cX11_pane 121 = .ok (.invokespecial 156, 3) := by decide +kernel
theorem dX11_pane_124 : decode cX11_pane 124 = .ok (.athrow, 1) := by decide +kernel
set_option maxRecDepth 20000 in
theorem kb_107_0 : ∀ q ∈ tb_107_0, s_atx 107 yX11_pane cX11_pane q.1 q.2 := (List.forall_mem_cons.mpr ⟨⟨s_ldAn dX11_pane_0 rfl, s_mo_ldA _ _⟩, (List.forall_mem_cons.mpr ⟨⟨s_ldIn dX11_pane_1 rfl, s_mo_ldI _ _⟩, (List.forall_mem_cons.mpr ⟨⟨s_sV mk_107 mk_142 ok_142 (by decide +kernel) dX11_pane_2 w_762 w_764 wp_9 (Or.inr ⟨7, _, _, rfl, rfl⟩), s_h0 mk_107⟩, (List.forall_mem_cons.mpr ⟨⟨s_ldIn dX11_pane_5 rfl, s_mo_ldI _ _⟩, (List.forall_mem_cons.mpr ⟨⟨s_table dX11_pane_6 (by decide) (by decide) (by decide +kernel), s_mo_table _ _ _⟩, (List.forall_mem_cons.mpr ⟨⟨s_ldAn dX11_pane_48 rfl, s_mo_ldA _ _⟩, (List.forall_mem_cons.mpr ⟨⟨s_getf (ci := 7) (k := 0) rfl (by decide) inX11 w_297 dX11_pane_49, s_mo_getf _ _ _⟩, (List.forall_mem_cons.mpr ⟨⟨s_getf (ci := 0) (k := 6) rfl (by decide) inX0 w_76 dX11_pane_52, s_mo_getf _ _ _⟩, (List.forall_mem_cons.mpr ⟨⟨s_ldIn dX11_pane_55 rfl, s_mo_ldI _ _⟩, (List.forall_mem_cons.mpr ⟨⟨s_iald dX11_pane_56, s_mo_iald _⟩, (List.forall_mem_cons.mpr ⟨s_r1 mk_107 dX11_pane_57, (List.forall_mem_cons.mpr ⟨⟨s_ldAn dX11_pane_58 rfl, s_mo_ldA _ _⟩, (List.forall_mem_cons.mpr ⟨⟨s_getf (ci := 7) (k := 0) rfl (by decide) inX11 w_297 dX11_pane_59, s_mo_getf _ _ _⟩, (List.forall_mem_cons.mpr ⟨⟨s_getf (ci := 0) (k := 7) rfl (by decide) inX0 w_82 dX11_pane_62, s_mo_getf _ _ _⟩, (fun _ h => absurd h List.not_mem_nil)⟩)⟩)⟩)⟩)⟩)⟩)⟩)⟩)⟩)⟩)⟩)⟩)⟩)⟩)
set_option maxRecDepth 20000 in
theorem kb_107_1 : ∀ q ∈ tb_107_1, s_atx 107 yX11_pane cX11_pane q.1 q.2 := (List.forall_mem_cons.mpr ⟨⟨s_ldIn dX11_pane_65 rfl, s_mo_ldI _ _⟩, (List.forall_mem_cons.mpr ⟨⟨s_iald dX11_pane_66, s_mo_iald _⟩, (List.forall_mem_cons.mpr ⟨s_r1 mk_107 dX11_pane_67, (List.forall_mem_cons.mpr ⟨⟨s_ldAn dX11_pane_68 rfl, s_mo_ldA _ _⟩, (List.forall_mem_cons.mpr ⟨⟨s_getf (ci := 7) (k := 0) rfl (by decide) inX11 w_297 dX11_pane_69, s_mo_getf _ _ _⟩, (List.forall_mem_cons.mpr ⟨⟨s_getf (ci := 0) (k := 8) rfl (by decide) inX0 w_87 dX11_pane_72, s_mo_getf _ _ _⟩, (List.forall_mem_cons.mpr ⟨⟨s_ldIn dX11_pane_75 rfl, s_mo_ldI _ _⟩, (List.forall_mem_cons.mpr ⟨⟨s_iald dX11_pane_76, s_mo_iald _⟩, (List.forall_mem_cons.mpr ⟨s_r1 mk_107 dX11_pane_77, (List.forall_mem_cons.mpr ⟨⟨s_ldAn dX11_pane_78 rfl, s_mo_ldA _ _⟩, (List.forall_mem_cons.mpr ⟨⟨s_getf (ci := 7) (k := 0) rfl (by decide) inX11 w_297 dX11_pane_79, s_mo_getf _ _ _⟩, (List.forall_mem_cons.mpr ⟨⟨s_getf (ci := 0) (k := 9) rfl (by decide) inX0 w_94 dX11_pane_82, s_mo_getf _ _ _⟩, (List.forall_mem_cons.mpr ⟨⟨s_ldIn dX11_pane_85 rfl, s_mo_ldI _ _⟩, (List.forall_mem_cons.mpr ⟨⟨s_iald dX11_pane_86, s_mo_iald _⟩, (List.forall_mem_cons.mpr ⟨s_r1 mk_107 dX11_pane_87, (List.forall_mem_cons.mpr ⟨⟨s_ldAn dX11_pane_88 rfl, s_mo_ldA _ _⟩, (List.forall_mem_cons.mpr ⟨⟨s_getf (ci := 7) (k := 0) rfl (by decide) inX11 w_297 dX11_pane_89, s_mo_getf _ _ _⟩, (List.forall_mem_cons.mpr ⟨⟨s_getf (ci := 0) (k := 10) rfl (by decide) inX0 w_99 dX11_pane_92, s_mo_getf _ _ _⟩, (List.forall_mem_cons.mpr ⟨⟨s_ldIn dX11_pane_95 rfl, s_mo_ldI _ _⟩, (List.forall_mem_cons.mpr ⟨⟨s_iald dX11_pane_96, s_mo_iald _⟩, (List.forall_mem_cons.mpr ⟨s_r1 mk_107 dX11_pane_97, (List.forall_mem_cons.mpr ⟨⟨s_ldAn dX11_pane_98 rfl, s_mo_ldA _ _⟩, (List.forall_mem_cons.mpr ⟨⟨s_getf (ci := 7) (k := 0) rfl (by decide) inX11 w_297 dX11_pane_99, s_mo_getf _ _ _⟩, (List.forall_mem_cons.mpr ⟨⟨s_getf (ci := 0) (k := 11) rfl (by decide) inX0 w_102 dX11_pane_102, s_mo_getf _ _ _⟩, (List.forall_mem_cons.mpr ⟨⟨s_ldIn dX11_pane_105 rfl, s_mo_ldI _ _⟩, (List.forall_mem_cons.mpr ⟨⟨s_iald dX11_pane_106, s_mo_iald _⟩, (List.forall_mem_cons.mpr ⟨s_r1 mk_107 dX11_pane_107, (List.forall_mem_cons.mpr ⟨⟨s_ldAn dX11_pane_108 rfl, s_mo_ldA _ _⟩, (List.forall_mem_cons.mpr ⟨⟨s_getf (ci := 7) (k := 0) rfl (by decide) inX11 w_297 dX11_pane_109, s_mo_getf _ _ _⟩, (List.forall_mem_cons.mpr ⟨⟨s_ldIn dX11_pane_112 rfl, s_mo_ldI _ _⟩, (List.forall_mem_cons.mpr ⟨⟨s_sV mk_107 mk_7 ok_7 (by decide +kernel) dX11_pane_113 w_781 w_782 w_783 (Or.inr ⟨0, _, _, rfl, rfl⟩), s_h0 mk_107⟩, (List.forall_mem_cons.mpr ⟨s_r1 mk_107 dX11_pane_116, (List.forall_mem_cons.mpr ⟨s_t mk_107 dX11_pane_117 dX11_pane_120 dX11_pane_121 dX11_pane_124 (by decide +kernel) w_791 w_24 x_GlassCity_156g x_GlassCity_156b x_GlassCity_156o, (fun _ h => absurd h List.not_mem_nil)⟩)⟩)⟩)⟩)⟩)⟩)⟩)⟩)⟩)⟩)⟩)⟩)⟩)⟩)⟩)⟩)⟩)⟩)⟩)⟩)⟩)⟩)⟩)⟩)⟩)⟩)⟩)⟩)⟩)⟩)⟩)⟩)⟩)
theorem km_107 : ∀ t ∈ tm_107, s_tok 107 t := (List.forall_mem_cons.mpr ⟨s_lift mk_107 kb_107_0, (List.forall_mem_cons.mpr ⟨s_lift mk_107 kb_107_1, (fun _ h => absurd h List.not_mem_nil)⟩)⟩)
theorem dX11_cart_0 : decode cX11_cart 0 = .ok (.iload_n 1, 1) := by decide +kernel
theorem dX11_cart_1 : decode cX11_cart 1 = .ok (.ifCond .lt 14, 3) := by decide +kernel
theorem dX11_cart_4 : decode cX11_cart 4 = .ok (.iload_n 1, 1) := by decide +kernel
theorem dX11_cart_5 : decode cX11_cart 5 = .ok (.aload_n 0, 1) := by decide +kernel
theorem dX11_cart_6 : decode cX11_cart 6 = .ok (.getfield 10, 3) := by decide +kernel
theorem dX11_cart_9 : decode cX11_cart 9 = .ok (.getfield 157, 3) := by decide +kernel
theorem dX11_cart_12 : decode cX11_cart 12 = .ok (.if_icmp .lt 11, 3) := by decide +kernel
theorem dX11_cart_15 : decode cX11_cart 15 = .ok (.new 160, 3) := by decide +kernel
theorem dX11_cart_18 : decode cX11_cart 18 = .ok (.dup, 1) := by decide +kernel
theorem dX11_cart_19 : decode cX11_cart 19 = .ok (.invokespecial 162, 3) := by decide +kernel
theorem dX11_cart_22 : decode cX11_cart 22 = .ok (.athrow, 1) := by decide +kernel
theorem dX11_cart_23 : decode cX11_cart 23 = .ok (.iload_n 2, 1) := by decide +kernel
theorem dX11_cart_24 : decode cX11_cart 24 = .ok (.ifCond .lt 8, 3) := by decide +kernel
theorem dX11_cart_27 : decode cX11_cart 27 = .ok (.iload_n 2, 1) := by decide +kernel
theorem dX11_cart_28 : decode cX11_cart 28 = .ok (.iconst 5, 1) := by decide +kernel
theorem dX11_cart_29 : decode cX11_cart 29 = .ok (.if_icmp .lt 11, 3) := by decide +kernel
theorem dX11_cart_32 : decode cX11_cart 32 = .ok (.new 154, 3) := by decide +kernel
theorem dX11_cart_35 : decode cX11_cart 35 = .ok (.dup, 1) := by decide +kernel
theorem dX11_cart_36 : decode cX11_cart 36 = .ok (.invokespecial 156, 3) := by decide +kernel
theorem dX11_cart_39 : decode cX11_cart 39 = .ok (.athrow, 1) := by decide +kernel
theorem dX11_cart_40 : decode cX11_cart 40 = .ok (.aload_n 0, 1) := by decide +kernel
theorem dX11_cart_41 : decode cX11_cart 41 = .ok (.getfield 10, 3) := by decide +kernel
theorem dX11_cart_44 : decode cX11_cart 44 = .ok (.getfield 163, 3) := by decide +kernel
theorem dX11_cart_47 : decode cX11_cart 47 = .ok (.iconst 5, 1) := by decide +kernel
theorem dX11_cart_48 : decode cX11_cart 48 = .ok (.iload_n 1, 1) := by decide +kernel
theorem dX11_cart_49 : decode cX11_cart 49 = .ok (.imul, 1) := by decide +kernel
theorem dX11_cart_50 : decode cX11_cart 50 = .ok (.iload_n 2, 1) := by decide +kernel
theorem dX11_cart_51 : decode cX11_cart 51 = .ok (.iadd, 1) := by decide +kernel
theorem dX11_cart_52 : decode cX11_cart 52 = .ok (.iaload, 1) := by decide +kernel
theorem dX11_cart_53 : decode cX11_cart 53 = .ok (.ireturn, 1) := by decide +kernel
set_option maxRecDepth 20000 in
theorem kb_108_0 : ∀ q ∈ tb_108_0, s_atx 108 yX11_cart cX11_cart q.1 q.2 := (List.forall_mem_cons.mpr ⟨⟨s_ldIn dX11_cart_0 rfl, s_mo_ldI _ _⟩, (List.forall_mem_cons.mpr ⟨⟨s_iflt dX11_cart_1 (by decide), s_mo_iflt _ _⟩, (List.forall_mem_cons.mpr ⟨⟨s_ldIn dX11_cart_4 rfl, s_mo_ldI _ _⟩, (List.forall_mem_cons.mpr ⟨⟨s_ldAn dX11_cart_5 rfl, s_mo_ldA _ _⟩, (List.forall_mem_cons.mpr ⟨⟨s_getf (ci := 7) (k := 0) rfl (by decide) inX11 w_297 dX11_cart_6, s_mo_getf _ _ _⟩, (List.forall_mem_cons.mpr ⟨⟨s_getf (ci := 0) (k := 12) rfl (by decide) inX0 w_106 dX11_cart_9, s_mo_getf _ _ _⟩, (List.forall_mem_cons.mpr ⟨⟨s_iclt dX11_cart_12 (by decide), s_mo_iclt _ _⟩, (List.forall_mem_cons.mpr ⟨s_t mk_108 dX11_cart_15 dX11_cart_18 dX11_cart_19 dX11_cart_22 (by decide +kernel) w_766 w_22 x_GlassCity_162g x_GlassCity_162b x_GlassCity_162o, (List.forall_mem_cons.mpr ⟨⟨s_ldIn dX11_cart_23 rfl, s_mo_ldI _ _⟩, (List.forall_mem_cons.mpr ⟨⟨s_iflt dX11_cart_24 (by decide), s_mo_iflt _ _⟩, (List.forall_mem_cons.mpr ⟨⟨s_ldIn dX11_cart_27 rfl, s_mo_ldI _ _⟩, (List.forall_mem_cons.mpr ⟨⟨s_iconst dX11_cart_28 (by decide +kernel), s_mo_push _ _⟩, (List.forall_mem_cons.mpr ⟨⟨s_iclt dX11_cart_29 (by decide), s_mo_iclt _ _⟩, (List.forall_mem_cons.mpr ⟨s_t mk_108 dX11_cart_32 dX11_cart_35 dX11_cart_36 dX11_cart_39 (by decide +kernel) w_791 w_24 x_GlassCity_156g x_GlassCity_156b x_GlassCity_156o, (List.forall_mem_cons.mpr ⟨⟨s_ldAn dX11_cart_40 rfl, s_mo_ldA _ _⟩, (List.forall_mem_cons.mpr ⟨⟨s_getf (ci := 7) (k := 0) rfl (by decide) inX11 w_297 dX11_cart_41, s_mo_getf _ _ _⟩, (List.forall_mem_cons.mpr ⟨⟨s_getf (ci := 0) (k := 13) rfl (by decide) inX0 w_110 dX11_cart_44, s_mo_getf _ _ _⟩, (List.forall_mem_cons.mpr ⟨⟨s_iconst dX11_cart_47 (by decide +kernel), s_mo_push _ _⟩, (List.forall_mem_cons.mpr ⟨⟨s_ldIn dX11_cart_48 rfl, s_mo_ldI _ _⟩, (List.forall_mem_cons.mpr ⟨⟨s_imul dX11_cart_49, s_mo_bin _ _⟩, (List.forall_mem_cons.mpr ⟨⟨s_ldIn dX11_cart_50 rfl, s_mo_ldI _ _⟩, (List.forall_mem_cons.mpr ⟨⟨s_iadd dX11_cart_51, s_mo_bin _ _⟩, (List.forall_mem_cons.mpr ⟨⟨s_iald dX11_cart_52, s_mo_iald _⟩, (List.forall_mem_cons.mpr ⟨s_r1 mk_108 dX11_cart_53, (fun _ h => absurd h List.not_mem_nil)⟩)⟩)⟩)⟩)⟩)⟩)⟩)⟩)⟩)⟩)⟩)⟩)⟩)⟩)⟩)⟩)⟩)⟩)⟩)⟩)⟩)⟩)⟩)⟩)
theorem km_108 : ∀ t ∈ tm_108, s_tok 108 t := (List.forall_mem_cons.mpr ⟨s_lift mk_108 kb_108_0, (fun _ h => absurd h List.not_mem_nil)⟩)
theorem dX11_strew_0 : decode cX11_strew 0 = .ok (.aload_n 0, 1) := by decide +kernel
theorem dX11_strew_1 : decode cX11_strew 1 = .ok (.iload_n 1, 1) := by decide +kernel
theorem dX11_strew_2 : decode cX11_strew 2 = .ok (.invokevirtual 128, 3) := by decide +kernel
theorem dX11_strew_5 : decode cX11_strew 5 = .ok (.iload_n 2, 1) := by decide +kernel
theorem dX11_strew_6 : decode cX11_strew 6 = .ok (.iconst 0, 1) := by decide +kernel
theorem dX11_strew_7 : decode cX11_strew 7 = .ok (.bipush 100, 2) := by decide +kernel
theorem dX11_strew_9 : decode cX11_strew 9 = .ok (.invokestatic 166, 3) := by decide +kernel
theorem dX11_strew_12 : decode cX11_strew 12 = .ok (.aload_n 0, 1) := by decide +kernel
theorem dX11_strew_13 : decode cX11_strew 13 = .ok (.getfield 45, 3) := by decide +kernel
theorem dX11_strew_16 : decode cX11_strew 16 = .ok (.aload_n 0, 1) := by decide +kernel
theorem dX11_strew_17 : decode cX11_strew 17 = .ok (.getfield 10, 3) := by decide +kernel
theorem dX11_strew_20 : decode cX11_strew 20 = .ok (.invokevirtual 170, 3) := by decide +kernel
theorem dX11_strew_23 : decode cX11_strew 23 = .ok (.aload_n 0, 1) := by decide +kernel
theorem dX11_strew_24 : decode cX11_strew 24 = .ok (.getfield 10, 3) := by decide +kernel
theorem dX11_strew_27 : decode cX11_strew 27 = .ok (.getfield 138, 3) := by decide +kernel
theorem dX11_strew_30 : decode cX11_strew 30 = .ok (.iload_n 1, 1) := by decide +kernel
theorem dX11_strew_31 : decode cX11_strew 31 = .ok (.iaload, 1) := by decide +kernel
theorem dX11_strew_32 : decode cX11_strew 32 = .ok (.istore_n 3, 1) := by decide +kernel
theorem dX11_strew_33 : decode cX11_strew 33 = .ok (.aload_n 0, 1) := by decide +kernel
theorem dX11_strew_34 : decode cX11_strew 34 = .ok (.getfield 10, 3) := by decide +kernel
theorem dX11_strew_37 : decode cX11_strew 37 = .ok (.getfield 138, 3) := by decide +kernel
theorem dX11_strew_40 : decode cX11_strew 40 = .ok (.iload_n 1, 1) := by decide +kernel
theorem dX11_strew_41 : decode cX11_strew 41 = .ok (.iload_n 2, 1) := by decide +kernel
theorem dX11_strew_42 : decode cX11_strew 42 = .ok (.iastore, 1) := by decide +kernel
theorem dX11_strew_43 : decode cX11_strew 43 = .ok (.iload_n 3, 1) := by decide +kernel
theorem dX11_strew_44 : decode cX11_strew 44 = .ok (.ireturn, 1) := by decide +kernel
set_option maxRecDepth 20000 in
theorem kb_109_0 : ∀ q ∈ tb_109_0, s_atx 109 yX11_strew cX11_strew q.1 q.2 := (List.forall_mem_cons.mpr ⟨⟨s_ldAn dX11_strew_0 rfl, s_mo_ldA _ _⟩, (List.forall_mem_cons.mpr ⟨⟨s_ldIn dX11_strew_1 rfl, s_mo_ldI _ _⟩, (List.forall_mem_cons.mpr ⟨⟨s_sV mk_109 mk_142 ok_142 (by decide +kernel) dX11_strew_2 w_762 w_764 wp_9 (Or.inr ⟨7, _, _, rfl, rfl⟩), s_h0 mk_109⟩, (List.forall_mem_cons.mpr ⟨⟨s_ldIn dX11_strew_5 rfl, s_mo_ldI _ _⟩, (List.forall_mem_cons.mpr ⟨⟨s_iconst dX11_strew_6 (by decide +kernel), s_mo_push _ _⟩, (List.forall_mem_cons.mpr ⟨⟨s_bipush dX11_strew_7 (by decide +kernel), s_mo_push _ _⟩, (List.forall_mem_cons.mpr ⟨⟨s_sS mk_109 mk_147 ok_147 (by decide +kernel) dX11_strew_9 w_820 w_821, s_h0 mk_109⟩, (List.forall_mem_cons.mpr ⟨⟨s_ldAn dX11_strew_12 rfl, s_mo_ldA _ _⟩, (List.forall_mem_cons.mpr ⟨⟨s_getf (ci := 7) (k := 7) rfl (by decide) inX11 w_304 dX11_strew_13, s_mo_getf _ _ _⟩, (List.forall_mem_cons.mpr ⟨⟨s_ldAn dX11_strew_16 rfl, s_mo_ldA _ _⟩, (List.forall_mem_cons.mpr ⟨⟨s_getf (ci := 7) (k := 0) rfl (by decide) inX11 w_297 dX11_strew_17, s_mo_getf _ _ _⟩, (List.forall_mem_cons.mpr ⟨⟨s_sV mk_109 mk_73 ok_73 (by decide +kernel) dX11_strew_20 w_431 w_432 w_433 (Or.inr ⟨4, _, _, rfl, rfl⟩), s_h0 mk_109⟩, (List.forall_mem_cons.mpr ⟨⟨s_ldAn dX11_strew_23 rfl, s_mo_ldA _ _⟩, (List.forall_mem_cons.mpr ⟨⟨s_getf (ci := 7) (k := 0) rfl (by decide) inX11 w_297 dX11_strew_24, s_mo_getf _ _ _⟩, (List.forall_mem_cons.mpr ⟨⟨s_getf (ci := 0) (k := 8) rfl (by decide) inX0 w_87 dX11_strew_27, s_mo_getf _ _ _⟩, (List.forall_mem_cons.mpr ⟨⟨s_ldIn dX11_strew_30 rfl, s_mo_ldI _ _⟩, (List.forall_mem_cons.mpr ⟨⟨s_iald dX11_strew_31, s_mo_iald _⟩, (List.forall_mem_cons.mpr ⟨⟨s_stIn dX11_strew_32 rfl, s_mo_stI _ _⟩, (List.forall_mem_cons.mpr ⟨⟨s_ldAn dX11_strew_33 rfl, s_mo_ldA _ _⟩, (List.forall_mem_cons.mpr ⟨⟨s_getf (ci := 7) (k := 0) rfl (by decide) inX11 w_297 dX11_strew_34, s_mo_getf _ _ _⟩, (List.forall_mem_cons.mpr ⟨⟨s_getf (ci := 0) (k := 8) rfl (by decide) inX0 w_87 dX11_strew_37, s_mo_getf _ _ _⟩, (List.forall_mem_cons.mpr ⟨⟨s_ldIn dX11_strew_40 rfl, s_mo_ldI _ _⟩, (List.forall_mem_cons.mpr ⟨⟨s_ldIn dX11_strew_41 rfl, s_mo_ldI _ _⟩, (List.forall_mem_cons.mpr ⟨⟨s_iast dX11_strew_42, s_mo_iast _⟩, (List.forall_mem_cons.mpr ⟨⟨s_ldIn dX11_strew_43 rfl, s_mo_ldI _ _⟩, (List.forall_mem_cons.mpr ⟨s_r1 mk_109 dX11_strew_44, (fun _ h => absurd h List.not_mem_nil)⟩)⟩)⟩)⟩)⟩)⟩)⟩)⟩)⟩)⟩)⟩)⟩)⟩)⟩)⟩)⟩)⟩)⟩)⟩)⟩)⟩)⟩)⟩)⟩)⟩)⟩)
theorem km_109 : ∀ t ∈ tm_109, s_tok 109 t := (List.forall_mem_cons.mpr ⟨s_lift mk_109 kb_109_0, (fun _ h => absurd h List.not_mem_nil)⟩)
theorem dX11_runs_0 : decode cX11_runs 0 = .ok (.iload_n 1, 1) := by decide +kernel
theorem dX11_runs_1 : decode cX11_runs 1 = .ok (.iconst 0, 1) := by decide +kernel
theorem dX11_runs_2 : decode cX11_runs 2 = .ok (.bipush 100, 2) := by decide +kernel
theorem dX11_runs_4 : decode cX11_runs 4 = .ok (.invokestatic 166, 3) := by decide +kernel
theorem dX11_runs_7 : decode cX11_runs 7 = .ok (.aload_n 0, 1) := by decide +kernel
theorem dX11_runs_8 : decode cX11_runs 8 = .ok (.getfield 10, 3) := by decide +kernel
theorem dX11_runs_11 : decode cX11_runs 11 = .ok (.getfield 173, 3) := by decide +kernel
theorem dX11_runs_14 : decode cX11_runs 14 = .ok (.istore_n 2, 1) := by decide +kernel
theorem dX11_runs_15 : decode cX11_runs 15 = .ok (.aload_n 0, 1) := by decide +kernel
theorem dX11_runs_16 : decode cX11_runs 16 = .ok (.getfield 10, 3) := by decide +kernel
theorem dX11_runs_19 : decode cX11_runs 19 = .ok (.iload_n 1, 1) := by decide +kernel
theorem dX11_runs_20 : decode cX11_runs 20 = .ok (.putfield 173, 3) := by decide +kernel
theorem dX11_runs_23 : decode cX11_runs 23 = .ok (.iload_n 2, 1) := by decide +kernel
theorem dX11_runs_24 : decode cX11_runs 24 = .ok (.ireturn, 1) := by decide +kernel
set_option maxRecDepth 20000 in
theorem kb_110_0 : ∀ q ∈ tb_110_0, s_atx 110 yX11_runs cX11_runs q.1 q.2 := (List.forall_mem_cons.mpr ⟨⟨s_ldIn dX11_runs_0 rfl, s_mo_ldI _ _⟩, (List.forall_mem_cons.mpr ⟨⟨s_iconst dX11_runs_1 (by decide +kernel), s_mo_push _ _⟩, (List.forall_mem_cons.mpr ⟨⟨s_bipush dX11_runs_2 (by decide +kernel), s_mo_push _ _⟩, (List.forall_mem_cons.mpr ⟨⟨s_sS mk_110 mk_147 ok_147 (by decide +kernel) dX11_runs_4 w_820 w_821, s_h0 mk_110⟩, (List.forall_mem_cons.mpr ⟨⟨s_ldAn dX11_runs_7 rfl, s_mo_ldA _ _⟩, (List.forall_mem_cons.mpr ⟨⟨s_getf (ci := 7) (k := 0) rfl (by decide) inX11 w_297 dX11_runs_8, s_mo_getf _ _ _⟩, (List.forall_mem_cons.mpr ⟨⟨s_getf (ci := 0) (k := 16) rfl (by decide) inX0 w_119 dX11_runs_11, s_mo_getf _ _ _⟩, (List.forall_mem_cons.mpr ⟨⟨s_stIn dX11_runs_14 rfl, s_mo_stI _ _⟩, (List.forall_mem_cons.mpr ⟨⟨s_ldAn dX11_runs_15 rfl, s_mo_ldA _ _⟩, (List.forall_mem_cons.mpr ⟨⟨s_getf (ci := 7) (k := 0) rfl (by decide) inX11 w_297 dX11_runs_16, s_mo_getf _ _ _⟩, (List.forall_mem_cons.mpr ⟨⟨s_ldIn dX11_runs_19 rfl, s_mo_ldI _ _⟩, (List.forall_mem_cons.mpr ⟨⟨s_putI (ci := 0) (k := 16) rfl (by decide) inX0 tyX0_ok nmX0 rfl rfl w_119 dX11_runs_20, s_mo_putI _ _ _⟩, (List.forall_mem_cons.mpr ⟨⟨s_ldIn dX11_runs_23 rfl, s_mo_ldI _ _⟩, (List.forall_mem_cons.mpr ⟨s_r1 mk_110 dX11_runs_24, (fun _ h => absurd h List.not_mem_nil)⟩)⟩)⟩)⟩)⟩)⟩)⟩)⟩)⟩)⟩)⟩)⟩)⟩)⟩)
theorem km_110 : ∀ t ∈ tm_110, s_tok 110 t := (List.forall_mem_cons.mpr ⟨s_lift mk_110 kb_110_0, (fun _ h => absurd h List.not_mem_nil)⟩)
theorem dX11_load_0 : decode cX11_load 0 = .ok (.aload_n 0, 1) := by decide +kernel
theorem dX11_load_1 : decode cX11_load 1 = .ok (.iload_n 1, 1) := by decide +kernel
theorem dX11_load_2 : decode cX11_load 2 = .ok (.invokevirtual 128, 3) := by decide +kernel
theorem dX11_load_5 : decode cX11_load 5 = .ok (.iload_n 2, 1) := by decide +kernel
theorem dX11_load_6 : decode cX11_load 6 = .ok (.invokestatic 176, 3) := by decide +kernel
theorem dX11_load_9 : decode cX11_load 9 = .ok (.aload_n 0, 1) := by decide +kernel
theorem dX11_load_10 : decode cX11_load 10 = .ok (.getfield 10, 3) := by decide +kernel
theorem dX11_load_13 : decode cX11_load 13 = .ok (.iload_n 1, 1) := by decide +kernel
theorem dX11_load_14 : decode cX11_load 14 = .ok (.iload_n 2, 1) := by decide +kernel
theorem dX11_load_15 : decode cX11_load 15 = .ok (.invokevirtual 179, 3) := by decide +kernel
theorem dX11_load_18 : decode cX11_load 18 = .ok (.ireturn, 1) := by decide +kernel
set_option maxRecDepth 20000 in
theorem kb_111_0 : ∀ q ∈ tb_111_0, s_atx 111 yX11_load cX11_load q.1 q.2 := (List.forall_mem_cons.mpr ⟨⟨s_ldAn dX11_load_0 rfl, s_mo_ldA _ _⟩, (List.forall_mem_cons.mpr ⟨⟨s_ldIn dX11_load_1 rfl, s_mo_ldI _ _⟩, (List.forall_mem_cons.mpr ⟨⟨s_sV mk_111 mk_142 ok_142 (by decide +kernel) dX11_load_2 w_762 w_764 wp_9 (Or.inr ⟨7, _, _, rfl, rfl⟩), s_h0 mk_111⟩, (List.forall_mem_cons.mpr ⟨⟨s_ldIn dX11_load_5 rfl, s_mo_ldI _ _⟩, (List.forall_mem_cons.mpr ⟨⟨s_sS mk_111 mk_145 ok_145 (by decide +kernel) dX11_load_6 w_837 w_838, s_h0 mk_111⟩, (List.forall_mem_cons.mpr ⟨⟨s_ldAn dX11_load_9 rfl, s_mo_ldA _ _⟩, (List.forall_mem_cons.mpr ⟨⟨s_getf (ci := 7) (k := 0) rfl (by decide) inX11 w_297 dX11_load_10, s_mo_getf _ _ _⟩, (List.forall_mem_cons.mpr ⟨⟨s_ldIn dX11_load_13 rfl, s_mo_ldI _ _⟩, (List.forall_mem_cons.mpr ⟨⟨s_ldIn dX11_load_14 rfl, s_mo_ldI _ _⟩, (List.forall_mem_cons.mpr ⟨⟨s_sV mk_111 mk_11 ok_11 (by decide +kernel) dX11_load_15 w_840 w_841 w_842 (Or.inr ⟨0, _, _, rfl, rfl⟩), s_h0 mk_111⟩, (List.forall_mem_cons.mpr ⟨s_r1 mk_111 dX11_load_18, (fun _ h => absurd h List.not_mem_nil)⟩)⟩)⟩)⟩)⟩)⟩)⟩)⟩)⟩)⟩)⟩)
theorem km_111 : ∀ t ∈ tm_111, s_tok 111 t := (List.forall_mem_cons.mpr ⟨s_lift mk_111 kb_111_0, (fun _ h => absurd h List.not_mem_nil)⟩)
theorem dX11_holds_0 : decode cX11_holds 0 = .ok (.aload_n 0, 1) := by decide +kernel
theorem dX11_holds_1 : decode cX11_holds 1 = .ok (.iload_n 1, 1) := by decide +kernel
theorem dX11_holds_2 : decode cX11_holds 2 = .ok (.invokevirtual 128, 3) := by decide +kernel
theorem dX11_holds_5 : decode cX11_holds 5 = .ok (.iload_n 2, 1) := by decide +kernel
theorem dX11_holds_6 : decode cX11_holds 6 = .ok (.invokestatic 176, 3) := by decide +kernel
theorem dX11_holds_9 : decode cX11_holds 9 = .ok (.iload_n 3, 1) := by decide +kernel
theorem dX11_holds_10 : decode cX11_holds 10 = .ok (.iconst 0, 1) := by decide +kernel
theorem dX11_holds_11 : decode cX11_holds 11 = .ok (.sipush 999, 3) := by decide +kernel
theorem dX11_holds_14 : decode cX11_holds 14 = .ok (.invokestatic 166, 3) := by decide +kernel
theorem dX11_holds_17 : decode cX11_holds 17 = .ok (.aload_n 0, 1) := by decide +kernel
theorem dX11_holds_18 : decode cX11_holds 18 = .ok (.getfield 10, 3) := by decide +kernel
theorem dX11_holds_21 : decode cX11_holds 21 = .ok (.iload_n 1, 1) := by decide +kernel
theorem dX11_holds_22 : decode cX11_holds 22 = .ok (.iload_n 2, 1) := by decide +kernel
theorem dX11_holds_23 : decode cX11_holds 23 = .ok (.iload_n 3, 1) := by decide +kernel
theorem dX11_holds_24 : decode cX11_holds 24 = .ok (.invokevirtual 183, 3) := by decide +kernel
theorem dX11_holds_27 : decode cX11_holds 27 = .ok (.ireturn, 1) := by decide +kernel
set_option maxRecDepth 20000 in
theorem kb_112_0 : ∀ q ∈ tb_112_0, s_atx 112 yX11_holds cX11_holds q.1 q.2 := (List.forall_mem_cons.mpr ⟨⟨s_ldAn dX11_holds_0 rfl, s_mo_ldA _ _⟩, (List.forall_mem_cons.mpr ⟨⟨s_ldIn dX11_holds_1 rfl, s_mo_ldI _ _⟩, (List.forall_mem_cons.mpr ⟨⟨s_sV mk_112 mk_142 ok_142 (by decide +kernel) dX11_holds_2 w_762 w_764 wp_9 (Or.inr ⟨7, _, _, rfl, rfl⟩), s_h0 mk_112⟩, (List.forall_mem_cons.mpr ⟨⟨s_ldIn dX11_holds_5 rfl, s_mo_ldI _ _⟩, (List.forall_mem_cons.mpr ⟨⟨s_sS mk_112 mk_145 ok_145 (by decide +kernel) dX11_holds_6 w_837 w_838, s_h0 mk_112⟩, (List.forall_mem_cons.mpr ⟨⟨s_ldIn dX11_holds_9 rfl, s_mo_ldI _ _⟩, (List.forall_mem_cons.mpr ⟨⟨s_iconst dX11_holds_10 (by decide +kernel), s_mo_push _ _⟩, (List.forall_mem_cons.mpr ⟨⟨s_sipush dX11_holds_11 (by decide +kernel), s_mo_push _ _⟩, (List.forall_mem_cons.mpr ⟨⟨s_sS mk_112 mk_147 ok_147 (by decide +kernel) dX11_holds_14 w_820 w_821, s_h0 mk_112⟩, (List.forall_mem_cons.mpr ⟨⟨s_ldAn dX11_holds_17 rfl, s_mo_ldA _ _⟩, (List.forall_mem_cons.mpr ⟨⟨s_getf (ci := 7) (k := 0) rfl (by decide) inX11 w_297 dX11_holds_18, s_mo_getf _ _ _⟩, (List.forall_mem_cons.mpr ⟨⟨s_ldIn dX11_holds_21 rfl, s_mo_ldI _ _⟩, (List.forall_mem_cons.mpr ⟨⟨s_ldIn dX11_holds_22 rfl, s_mo_ldI _ _⟩, (List.forall_mem_cons.mpr ⟨⟨s_ldIn dX11_holds_23 rfl, s_mo_ldI _ _⟩, (List.forall_mem_cons.mpr ⟨⟨s_sV mk_112 mk_12 ok_12 (by decide +kernel) dX11_holds_24 w_859 w_860 w_861 (Or.inr ⟨0, _, _, rfl, rfl⟩), s_h0 mk_112⟩, (List.forall_mem_cons.mpr ⟨s_r2 mk_112 dX11_holds_27, (fun _ h => absurd h List.not_mem_nil)⟩)⟩)⟩)⟩)⟩)⟩)⟩)⟩)⟩)⟩)⟩)⟩)⟩)⟩)⟩)⟩)
theorem km_112 : ∀ t ∈ tm_112, s_tok 112 t := (List.forall_mem_cons.mpr ⟨s_lift mk_112 kb_112_0, (fun _ h => absurd h List.not_mem_nil)⟩)
theorem dX11_breaks_0 : decode cX11_breaks 0 = .ok (.iload_n 1, 1) := by decide +kernel
theorem dX11_breaks_1 : decode cX11_breaks 1 = .ok (.invokestatic 176, 3) := by decide +kernel
theorem dX11_breaks_4 : decode cX11_breaks 4 = .ok (.iconst 0, 1) := by decide +kernel
theorem dX11_breaks_5 : decode cX11_breaks 5 = .ok (.istore_n 2, 1) := by decide +kernel
theorem dX11_breaks_6 : decode cX11_breaks 6 = .ok (.iconst 0, 1) := by decide +kernel
theorem dX11_breaks_7 : decode cX11_breaks 7 = .ok (.istore_n 3, 1) := by decide +kernel
theorem dX11_breaks_8 : decode cX11_breaks 8 = .ok (.iload_n 3, 1) := by decide +kernel
theorem dX11_breaks_9 : decode cX11_breaks 9 = .ok (.aload_n 0, 1) := by decide +kernel
theorem dX11_breaks_10 : decode cX11_breaks 10 = .ok (.getfield 10, 3) := by decide +kernel
theorem dX11_breaks_13 : decode cX11_breaks 13 = .ok (.getfield 187, 3) := by decide +kernel
theorem dX11_breaks_16 : decode cX11_breaks 16 = .ok (.if_icmp .ge 28, 3) := by decide +kernel
theorem dX11_breaks_19 : decode cX11_breaks 19 = .ok (.aload_n 0, 1) := by decide +kernel
theorem dX11_breaks_20 : decode cX11_breaks 20 = .ok (.getfield 10, 3) := by decide +kernel
theorem dX11_breaks_23 : decode cX11_breaks 23 = .ok (.iload_n 3, 1) := by decide +kernel
theorem dX11_breaks_24 : decode cX11_breaks 24 = .ok (.iload_n 1, 1) := by decide +kernel
theorem dX11_breaks_25 : decode cX11_breaks 25 = .ok (.iconst 0, 1) := by decide +kernel
theorem dX11_breaks_26 : decode cX11_breaks 26 = .ok (.invokevirtual 183, 3) := by decide +kernel
theorem dX11_breaks_29 : decode cX11_breaks 29 = .ok (.ifCond .ne 9, 3) := by decide +kernel
theorem dX11_breaks_32 : decode cX11_breaks 32 = .ok (.iload_n 2, 1) := by decide +kernel
theorem dX11_breaks_33 : decode cX11_breaks 33 = .ok (.iconst 1, 1) := by decide +kernel
theorem dX11_breaks_34 : decode cX11_breaks 34 = .ok (.iload_n 3, 1) := by decide +kernel
theorem dX11_breaks_35 : decode cX11_breaks 35 = .ok (.ishl, 1) := by decide +kernel
theorem dX11_breaks_36 : decode cX11_breaks 36 = .ok (.ior, 1) := by decide +kernel
theorem dX11_breaks_37 : decode cX11_breaks 37 = .ok (.istore_n 2, 1) := by decide +kernel
theorem dX11_breaks_38 : decode cX11_breaks 38 = .ok (.iinc 3 1, 3) := by decide +kernel
theorem dX11_breaks_41 : decode cX11_breaks 41 = .ok (.goto (-33), 3) := by decide +kernel
theorem dX11_breaks_44 : decode cX11_breaks 44 = .ok (.iload_n 2, 1) := by decide +kernel
theorem dX11_breaks_45 : decode cX11_breaks 45 = .ok (.ireturn, 1) := by decide +kernel
set_option maxRecDepth 20000 in
theorem kb_113_0 : ∀ q ∈ tb_113_0, s_atx 113 yX11_breaks cX11_breaks q.1 q.2 := (List.forall_mem_cons.mpr ⟨⟨s_ldIn dX11_breaks_0 rfl, s_mo_ldI _ _⟩, (List.forall_mem_cons.mpr ⟨⟨s_sS mk_113 mk_145 ok_145 (by decide +kernel) dX11_breaks_1 w_837 w_838, s_h0 mk_113⟩, (List.forall_mem_cons.mpr ⟨⟨s_iconst dX11_breaks_4 (by decide +kernel), s_mo_push _ _⟩, (List.forall_mem_cons.mpr ⟨⟨s_stIn dX11_breaks_5 rfl, s_mo_stI _ _⟩, (List.forall_mem_cons.mpr ⟨⟨s_iconst dX11_breaks_6 (by decide +kernel), s_mo_push _ _⟩, (List.forall_mem_cons.mpr ⟨⟨s_stIn dX11_breaks_7 rfl, s_mo_stI _ _⟩, (List.forall_mem_cons.mpr ⟨⟨s_ldIn dX11_breaks_8 rfl, s_mo_ldI _ _⟩, (List.forall_mem_cons.mpr ⟨⟨s_ldAn dX11_breaks_9 rfl, s_mo_ldA _ _⟩, (List.forall_mem_cons.mpr ⟨⟨s_getf (ci := 7) (k := 0) rfl (by decide) inX11 w_297 dX11_breaks_10, s_mo_getf _ _ _⟩, (List.forall_mem_cons.mpr ⟨⟨s_getf (ci := 0) (k := 2) rfl (by decide) inX0 w_63 dX11_breaks_13, s_mo_getf _ _ _⟩, (List.forall_mem_cons.mpr ⟨⟨s_icge dX11_breaks_16 (by decide), s_mo_icge _ _⟩, (List.forall_mem_cons.mpr ⟨⟨s_ldAn dX11_breaks_19 rfl, s_mo_ldA _ _⟩, (List.forall_mem_cons.mpr ⟨⟨s_getf (ci := 7) (k := 0) rfl (by decide) inX11 w_297 dX11_breaks_20, s_mo_getf _ _ _⟩, (List.forall_mem_cons.mpr ⟨⟨s_ldIn dX11_breaks_23 rfl, s_mo_ldI _ _⟩, (List.forall_mem_cons.mpr ⟨⟨s_ldIn dX11_breaks_24 rfl, s_mo_ldI _ _⟩, (List.forall_mem_cons.mpr ⟨⟨s_iconst dX11_breaks_25 (by decide +kernel), s_mo_push _ _⟩, (List.forall_mem_cons.mpr ⟨⟨s_sV mk_113 mk_12 ok_12 (by decide +kernel) dX11_breaks_26 w_859 w_860 w_861 (Or.inr ⟨0, _, _, rfl, rfl⟩), s_h0 mk_113⟩, (List.forall_mem_cons.mpr ⟨⟨s_ifne dX11_breaks_29 (by decide), s_mo_ifne _ _⟩, (List.forall_mem_cons.mpr ⟨⟨s_ldIn dX11_breaks_32 rfl, s_mo_ldI _ _⟩, (List.forall_mem_cons.mpr ⟨⟨s_iconst dX11_breaks_33 (by decide +kernel), s_mo_push _ _⟩, (List.forall_mem_cons.mpr ⟨⟨s_ldIn dX11_breaks_34 rfl, s_mo_ldI _ _⟩, (List.forall_mem_cons.mpr ⟨⟨s_ishl dX11_breaks_35, s_mo_bin _ _⟩, (List.forall_mem_cons.mpr ⟨⟨s_ior dX11_breaks_36, s_mo_bin _ _⟩, (List.forall_mem_cons.mpr ⟨⟨s_stIn dX11_breaks_37 rfl, s_mo_stI _ _⟩, (List.forall_mem_cons.mpr ⟨⟨s_inc dX11_breaks_38 (by decide +kernel), s_mo_inc _ _ _⟩, (List.forall_mem_cons.mpr ⟨⟨s_goto dX11_breaks_41 (by decide), s_mo_goto _⟩, (List.forall_mem_cons.mpr ⟨⟨s_ldIn dX11_breaks_44 rfl, s_mo_ldI _ _⟩, (List.forall_mem_cons.mpr ⟨s_r1 mk_113 dX11_breaks_45, (fun _ h => absurd h List.not_mem_nil)⟩)⟩)⟩)⟩)⟩)⟩)⟩)⟩)⟩)⟩)⟩)⟩)⟩)⟩)⟩)⟩)⟩)⟩)⟩)⟩)⟩)⟩)⟩)⟩)⟩)⟩)⟩)⟩)
theorem km_113 : ∀ t ∈ tm_113, s_tok 113 t := (List.forall_mem_cons.mpr ⟨s_lift mk_113 kb_113_0, (fun _ h => absurd h List.not_mem_nil)⟩)
theorem dX11_light_0 : decode cX11_light 0 = .ok (.aload_n 0, 1) := by decide +kernel
theorem dX11_light_1 : decode cX11_light 1 = .ok (.iload_n 1, 1) := by decide +kernel
theorem dX11_light_2 : decode cX11_light 2 = .ok (.invokevirtual 128, 3) := by decide +kernel
theorem dX11_light_5 : decode cX11_light 5 = .ok (.iload_n 2, 1) := by decide +kernel
theorem dX11_light_6 : decode cX11_light 6 = .ok (.invokestatic 176, 3) := by decide +kernel
theorem dX11_light_9 : decode cX11_light 9 = .ok (.iload_n 3, 1) := by decide +kernel
theorem dX11_light_10 : decode cX11_light 10 = .ok (.tableswitch 61 0 2 #[26, 36, 51], 26) := by decide +kernel
theorem dX11_light_36 : decode cX11_light 36 = .ok (.aload_n 0, 1) := by decide +kernel
theorem dX11_light_37 : decode cX11_light 37 = .ok (.getfield 10, 3) := by decide +kernel
theorem dX11_light_40 : decode cX11_light 40 = .ok (.iload_n 1, 1) := by decide +kernel
theorem dX11_light_41 : decode cX11_light 41 = .ok (.iload_n 2, 1) := by decide +kernel
theorem dX11_light_42 : decode cX11_light 42 = .ok (.invokevirtual 190, 3) := by decide +kernel
theorem dX11_light_45 : decode cX11_light 45 = .ok (.ireturn, 1) := by decide +kernel
theorem dX11_light_46 : decode cX11_light 46 = .ok (.iload_n 2, 1) := by decide +kernel
theorem dX11_light_47 : decode cX11_light 47 = .ok (.invokestatic 193, 3) := by decide +kernel
theorem dX11_light_50 : decode cX11_light 50 = .ok (.aload_n 0, 1) := by decide +kernel
theorem dX11_light_51 : decode cX11_light 51 = .ok (.getfield 10, 3) := by decide +kernel
theorem dX11_light_54 : decode cX11_light 54 = .ok (.iload_n 1, 1) := by decide +kernel
theorem dX11_light_55 : decode cX11_light 55 = .ok (.iload_n 2, 1) := by decide +kernel
theorem dX11_light_56 : decode cX11_light 56 = .ok (.invokevirtual 190, 3) := by decide +kernel
theorem dX11_light_59 : decode cX11_light 59 = .ok (.isub, 1) := by decide +kernel
theorem dX11_light_60 : decode cX11_light 60 = .ok (.ireturn, 1) := by decide +kernel
theorem dX11_light_61 : decode cX11_light 61 = .ok (.aload_n 0, 1) := by decide +kernel
theorem dX11_light_62 : decode cX11_light 62 = .ok (.getfield 10, 3) := by decide +kernel
theorem dX11_light_65 : decode cX11_light 65 = .ok (.iload_n 1, 1) := by decide +kernel
theorem dX11_light_66 : decode cX11_light 66 = .ok (.iload_n 2, 1) := by decide +kernel
theorem dX11_light_67 : decode cX11_light 67 = .ok (.invokevirtual 196, 3) := by decide +kernel
theorem dX11_light_70 : decode cX11_light 70 = .ok (.ireturn, 1) := by decide +kernel
theorem dX11_light_71 : decode cX11_light 71 = .ok (.new 154, 3) := by decide +kernel
theorem dX11_light_74 : decode cX11_light 74 = .ok (.dup, 1) := by decide +kernel
theorem dX11_light_75 : decode cX11_light 75 = .ok (.invokespecial 156, 3) := by decide +kernel
theorem dX11_light_78 : decode cX11_light 78 = .ok (.athrow, 1) := by decide +kernel
set_option maxRecDepth 20000 in
theorem kb_114_0 : ∀ q ∈ tb_114_0, s_atx 114 yX11_light cX11_light q.1 q.2 := (List.forall_mem_cons.mpr ⟨⟨s_ldAn dX11_light_0 rfl, s_mo_ldA _ _⟩, (List.forall_mem_cons.mpr ⟨⟨s_ldIn dX11_light_1 rfl, s_mo_ldI _ _⟩, (List.forall_mem_cons.mpr ⟨⟨s_sV mk_114 mk_142 ok_142 (by decide +kernel) dX11_light_2 w_762 w_764 wp_9 (Or.inr ⟨7, _, _, rfl, rfl⟩), s_h0 mk_114⟩, (List.forall_mem_cons.mpr ⟨⟨s_ldIn dX11_light_5 rfl, s_mo_ldI _ _⟩, (List.forall_mem_cons.mpr ⟨⟨s_sS mk_114 mk_145 ok_145 (by decide +kernel) dX11_light_6 w_837 w_838, s_h0 mk_114⟩, (List.forall_mem_cons.mpr ⟨⟨s_ldIn dX11_light_9 rfl, s_mo_ldI _ _⟩, (List.forall_mem_cons.mpr ⟨⟨s_table dX11_light_10 (by decide) (by decide) (by decide +kernel), s_mo_table _ _ _⟩, (List.forall_mem_cons.mpr ⟨⟨s_ldAn dX11_light_36 rfl, s_mo_ldA _ _⟩, (List.forall_mem_cons.mpr ⟨⟨s_getf (ci := 7) (k := 0) rfl (by decide) inX11 w_297 dX11_light_37, s_mo_getf _ _ _⟩, (List.forall_mem_cons.mpr ⟨⟨s_ldIn dX11_light_40 rfl, s_mo_ldI _ _⟩, (List.forall_mem_cons.mpr ⟨⟨s_ldIn dX11_light_41 rfl, s_mo_ldI _ _⟩, (List.forall_mem_cons.mpr ⟨⟨s_sV mk_114 mk_14 ok_14 (by decide +kernel) dX11_light_42 w_879 w_880 w_881 (Or.inr ⟨0, _, _, rfl, rfl⟩), s_h0 mk_114⟩, (List.forall_mem_cons.mpr ⟨s_r1 mk_114 dX11_light_45, (List.forall_mem_cons.mpr ⟨⟨s_ldIn dX11_light_46 rfl, s_mo_ldI _ _⟩, (List.forall_mem_cons.mpr ⟨⟨s_sS mk_114 mk_13 ok_13 (by decide +kernel) dX11_light_47 w_889 w_884, s_h0 mk_114⟩, (List.forall_mem_cons.mpr ⟨⟨s_ldAn dX11_light_50 rfl, s_mo_ldA _ _⟩, (List.forall_mem_cons.mpr ⟨⟨s_getf (ci := 7) (k := 0) rfl (by decide) inX11 w_297 dX11_light_51, s_mo_getf _ _ _⟩, (List.forall_mem_cons.mpr ⟨⟨s_ldIn dX11_light_54 rfl, s_mo_ldI _ _⟩, (List.forall_mem_cons.mpr ⟨⟨s_ldIn dX11_light_55 rfl, s_mo_ldI _ _⟩, (List.forall_mem_cons.mpr ⟨⟨s_sV mk_114 mk_14 ok_14 (by decide +kernel) dX11_light_56 w_879 w_880 w_881 (Or.inr ⟨0, _, _, rfl, rfl⟩), s_h0 mk_114⟩, (List.forall_mem_cons.mpr ⟨⟨s_isub dX11_light_59, s_mo_bin _ _⟩, (List.forall_mem_cons.mpr ⟨s_r1 mk_114 dX11_light_60, (List.forall_mem_cons.mpr ⟨⟨s_ldAn dX11_light_61 rfl, s_mo_ldA _ _⟩, (List.forall_mem_cons.mpr ⟨⟨s_getf (ci := 7) (k := 0) rfl (by decide) inX11 w_297 dX11_light_62, s_mo_getf _ _ _⟩, (fun _ h => absurd h List.not_mem_nil)⟩)⟩)⟩)⟩)⟩)⟩)⟩)⟩)⟩)⟩)⟩)⟩)⟩)⟩)⟩)⟩)⟩)⟩)⟩)⟩)⟩)⟩)⟩)⟩)
set_option maxRecDepth 20000 in
theorem kb_114_1 : ∀ q ∈ tb_114_1, s_atx 114 yX11_light cX11_light q.1 q.2 := (List.forall_mem_cons.mpr ⟨⟨s_ldIn dX11_light_65 rfl, s_mo_ldI _ _⟩, (List.forall_mem_cons.mpr ⟨⟨s_ldIn dX11_light_66 rfl, s_mo_ldI _ _⟩, (List.forall_mem_cons.mpr ⟨⟨s_sV mk_114 mk_15 ok_15 (by decide +kernel) dX11_light_67 w_890 w_891 w_892 (Or.inr ⟨0, _, _, rfl, rfl⟩), s_h0 mk_114⟩, (List.forall_mem_cons.mpr ⟨s_r1 mk_114 dX11_light_70, (List.forall_mem_cons.mpr ⟨s_t mk_114 dX11_light_71 dX11_light_74 dX11_light_75 dX11_light_78 (by decide +kernel) w_791 w_24 x_GlassCity_156g x_GlassCity_156b x_GlassCity_156o, (fun _ h => absurd h List.not_mem_nil)⟩)⟩)⟩)⟩)⟩)
theorem km_114 : ∀ t ∈ tm_114, s_tok 114 t := (List.forall_mem_cons.mpr ⟨s_lift mk_114 kb_114_0, (List.forall_mem_cons.mpr ⟨s_lift mk_114 kb_114_1, (fun _ h => absurd h List.not_mem_nil)⟩)⟩)
theorem dX11_bill_0 : decode cX11_bill 0 = .ok (.iload_n 1, 1) := by decide +kernel
theorem dX11_bill_1 : decode cX11_bill 1 = .ok (.invokestatic 199, 3) := by decide +kernel
theorem dX11_bill_4 : decode cX11_bill 4 = .ok (.iload_n 2, 1) := by decide +kernel
theorem dX11_bill_5 : decode cX11_bill 5 = .ok (.invokestatic 176, 3) := by decide +kernel
theorem dX11_bill_8 : decode cX11_bill 8 = .ok (.iload_n 3, 1) := by decide +kernel
theorem dX11_bill_9 : decode cX11_bill 9 = .ok (.iconst 0, 1) := by decide +kernel
theorem dX11_bill_10 : decode cX11_bill 10 = .ok (.sipush 999, 3) := by decide +kernel
theorem dX11_bill_13 : decode cX11_bill 13 = .ok (.invokestatic 166, 3) := by decide +kernel
theorem dX11_bill_16 : decode cX11_bill 16 = .ok (.iconst 0, 1) := by decide +kernel
theorem dX11_bill_17 : decode cX11_bill 17 = .ok (.istore 4, 2) := by decide +kernel
theorem dX11_bill_19 : decode cX11_bill 19 = .ok (.iconst 0, 1) := by decide +kernel
theorem dX11_bill_20 : decode cX11_bill 20 = .ok (.istore 5, 2) := by decide +kernel
theorem dX11_bill_22 : decode cX11_bill 22 = .ok (.iload 5, 2) := by decide +kernel
theorem dX11_bill_24 : decode cX11_bill 24 = .ok (.aload_n 0, 1) := by decide +kernel
theorem dX11_bill_25 : decode cX11_bill 25 = .ok (.getfield 10, 3) := by decide +kernel
theorem dX11_bill_28 : decode cX11_bill 28 = .ok (.getfield 187, 3) := by decide +kernel
theorem dX11_bill_31 : decode cX11_bill 31 = .ok (.if_icmp .ge 38, 3) := by decide +kernel
theorem dX11_bill_34 : decode cX11_bill 34 = .ok (.aload_n 0, 1) := by decide +kernel
theorem dX11_bill_35 : decode cX11_bill 35 = .ok (.getfield 10, 3) := by decide +kernel
theorem dX11_bill_38 : decode cX11_bill 38 = .ok (.getfield 144, 3) := by decide +kernel
theorem dX11_bill_41 : decode cX11_bill 41 = .ok (.iload 5, 2) := by decide +kernel
theorem dX11_bill_43 : decode cX11_bill 43 = .ok (.iaload, 1) := by decide +kernel
theorem dX11_bill_44 : decode cX11_bill 44 = .ok (.iload_n 1, 1) := by decide +kernel
theorem dX11_bill_45 : decode cX11_bill 45 = .ok (.if_icmp .ne 18, 3) := by decide +kernel
theorem dX11_bill_48 : decode cX11_bill 48 = .ok (.iload 4, 2) := by decide +kernel
theorem dX11_bill_50 : decode cX11_bill 50 = .ok (.aload_n 0, 1) := by decide +kernel
theorem dX11_bill_51 : decode cX11_bill 51 = .ok (.getfield 10, 3) := by decide +kernel
theorem dX11_bill_54 : decode cX11_bill 54 = .ok (.iload 5, 2) := by decide +kernel
theorem dX11_bill_56 : decode cX11_bill 56 = .ok (.iload_n 2, 1) := by decide +kernel
theorem dX11_bill_57 : decode cX11_bill 57 = .ok (.invokevirtual 190, 3) := by decide +kernel
theorem dX11_bill_60 : decode cX11_bill 60 = .ok (.iadd, 1) := by decide +kernel
theorem dX11_bill_61 : decode cX11_bill 61 = .ok (.istore 4, 2) := by decide +kernel
theorem dX11_bill_63 : decode cX11_bill 63 = .ok (.iinc 5 1, 3) := by decide +kernel
theorem dX11_bill_66 : decode cX11_bill 66 = .ok (.goto (-44), 3) := by decide +kernel
theorem dX11_bill_69 : decode cX11_bill 69 = .ok (.iload 4, 2) := by decide +kernel
theorem dX11_bill_71 : decode cX11_bill 71 = .ok (.iload_n 3, 1) := by decide +kernel
theorem dX11_bill_72 : decode cX11_bill 72 = .ok (.imul, 1) := by decide +kernel
theorem dX11_bill_73 : decode cX11_bill 73 = .ok (.bipush 10, 2) := by decide +kernel
theorem dX11_bill_75 : decode cX11_bill 75 = .ok (.idiv, 1) := by decide +kernel
theorem dX11_bill_76 : decode cX11_bill 76 = .ok (.ireturn, 1) := by decide +kernel
set_option maxRecDepth 20000 in
theorem kb_115_0 : ∀ q ∈ tb_115_0, s_atx 115 yX11_bill cX11_bill q.1 q.2 := (List.forall_mem_cons.mpr ⟨⟨s_ldIn dX11_bill_0 rfl, s_mo_ldI _ _⟩, (List.forall_mem_cons.mpr ⟨⟨s_sS mk_115 mk_146 ok_146 (by decide +kernel) dX11_bill_1 w_902 w_903, s_h0 mk_115⟩, (List.forall_mem_cons.mpr ⟨⟨s_ldIn dX11_bill_4 rfl, s_mo_ldI _ _⟩, (List.forall_mem_cons.mpr ⟨⟨s_sS mk_115 mk_145 ok_145 (by decide +kernel) dX11_bill_5 w_837 w_838, s_h0 mk_115⟩, (List.forall_mem_cons.mpr ⟨⟨s_ldIn dX11_bill_8 rfl, s_mo_ldI _ _⟩, (List.forall_mem_cons.mpr ⟨⟨s_iconst dX11_bill_9 (by decide +kernel), s_mo_push _ _⟩, (List.forall_mem_cons.mpr ⟨⟨s_sipush dX11_bill_10 (by decide +kernel), s_mo_push _ _⟩, (List.forall_mem_cons.mpr ⟨⟨s_sS mk_115 mk_147 ok_147 (by decide +kernel) dX11_bill_13 w_820 w_821, s_h0 mk_115⟩, (List.forall_mem_cons.mpr ⟨⟨s_iconst dX11_bill_16 (by decide +kernel), s_mo_push _ _⟩, (List.forall_mem_cons.mpr ⟨⟨s_stI dX11_bill_17, s_mo_stI _ _⟩, (List.forall_mem_cons.mpr ⟨⟨s_iconst dX11_bill_19 (by decide +kernel), s_mo_push _ _⟩, (List.forall_mem_cons.mpr ⟨⟨s_stI dX11_bill_20, s_mo_stI _ _⟩, (List.forall_mem_cons.mpr ⟨⟨s_ldI dX11_bill_22, s_mo_ldI _ _⟩, (List.forall_mem_cons.mpr ⟨⟨s_ldAn dX11_bill_24 rfl, s_mo_ldA _ _⟩, (List.forall_mem_cons.mpr ⟨⟨s_getf (ci := 7) (k := 0) rfl (by decide) inX11 w_297 dX11_bill_25, s_mo_getf _ _ _⟩, (List.forall_mem_cons.mpr ⟨⟨s_getf (ci := 0) (k := 2) rfl (by decide) inX0 w_63 dX11_bill_28, s_mo_getf _ _ _⟩, (List.forall_mem_cons.mpr ⟨⟨s_icge dX11_bill_31 (by decide), s_mo_icge _ _⟩, (List.forall_mem_cons.mpr ⟨⟨s_ldAn dX11_bill_34 rfl, s_mo_ldA _ _⟩, (List.forall_mem_cons.mpr ⟨⟨s_getf (ci := 7) (k := 0) rfl (by decide) inX11 w_297 dX11_bill_35, s_mo_getf _ _ _⟩, (List.forall_mem_cons.mpr ⟨⟨s_getf (ci := 0) (k := 10) rfl (by decide) inX0 w_99 dX11_bill_38, s_mo_getf _ _ _⟩, (List.forall_mem_cons.mpr ⟨⟨s_ldI dX11_bill_41, s_mo_ldI _ _⟩, (List.forall_mem_cons.mpr ⟨⟨s_iald dX11_bill_43, s_mo_iald _⟩, (List.forall_mem_cons.mpr ⟨⟨s_ldIn dX11_bill_44 rfl, s_mo_ldI _ _⟩, (List.forall_mem_cons.mpr ⟨⟨s_icne dX11_bill_45 (by decide), s_mo_icne _ _⟩, (List.forall_mem_cons.mpr ⟨⟨s_ldI dX11_bill_48, s_mo_ldI _ _⟩, (List.forall_mem_cons.mpr ⟨⟨s_ldAn dX11_bill_50 rfl, s_mo_ldA _ _⟩, (List.forall_mem_cons.mpr ⟨⟨s_getf (ci := 7) (k := 0) rfl (by decide) inX11 w_297 dX11_bill_51, s_mo_getf _ _ _⟩, (List.forall_mem_cons.mpr ⟨⟨s_ldI dX11_bill_54, s_mo_ldI _ _⟩, (List.forall_mem_cons.mpr ⟨⟨s_ldIn dX11_bill_56 rfl, s_mo_ldI _ _⟩, (List.forall_mem_cons.mpr ⟨⟨s_sV mk_115 mk_14 ok_14 (by decide +kernel) dX11_bill_57 w_879 w_880 w_881 (Or.inr ⟨0, _, _, rfl, rfl⟩), s_h0 mk_115⟩, (List.forall_mem_cons.mpr ⟨⟨s_iadd dX11_bill_60, s_mo_bin _ _⟩, (List.forall_mem_cons.mpr ⟨⟨s_stI dX11_bill_61, s_mo_stI _ _⟩, (List.forall_mem_cons.mpr ⟨⟨s_inc dX11_bill_63 (by decide +kernel), s_mo_inc _ _ _⟩, (fun _ h => absurd h List.not_mem_nil)⟩)⟩)⟩)⟩)⟩)⟩)⟩)⟩)⟩)⟩)⟩)⟩)⟩)⟩)⟩)⟩)⟩)⟩)⟩)⟩)⟩)⟩)⟩)⟩)⟩)⟩)⟩)⟩)⟩)⟩)⟩)⟩)⟩)
set_option maxRecDepth 20000 in
theorem kb_115_1 : ∀ q ∈ tb_115_1, s_atx 115 yX11_bill cX11_bill q.1 q.2 := (List.forall_mem_cons.mpr ⟨⟨s_goto dX11_bill_66 (by decide), s_mo_goto _⟩, (List.forall_mem_cons.mpr ⟨⟨s_ldI dX11_bill_69, s_mo_ldI _ _⟩, (List.forall_mem_cons.mpr ⟨⟨s_ldIn dX11_bill_71 rfl, s_mo_ldI _ _⟩, (List.forall_mem_cons.mpr ⟨⟨s_imul dX11_bill_72, s_mo_bin _ _⟩, (List.forall_mem_cons.mpr ⟨⟨s_bipush dX11_bill_73 (by decide +kernel), s_mo_push _ _⟩, (List.forall_mem_cons.mpr ⟨⟨s_idiv dX11_bill_75, s_mo_div _⟩, (List.forall_mem_cons.mpr ⟨s_r1 mk_115 dX11_bill_76, (fun _ h => absurd h List.not_mem_nil)⟩)⟩)⟩)⟩)⟩)⟩)⟩)
theorem km_115 : ∀ t ∈ tm_115, s_tok 115 t := (List.forall_mem_cons.mpr ⟨s_lift mk_115 kb_115_0, (List.forall_mem_cons.mpr ⟨s_lift mk_115 kb_115_1, (fun _ h => absurd h List.not_mem_nil)⟩)⟩)
theorem dX11_seen_0 : decode cX11_seen 0 = .ok (.aload_n 0, 1) := by decide +kernel
theorem dX11_seen_1 : decode cX11_seen 1 = .ok (.iload_n 1, 1) := by decide +kernel
theorem dX11_seen_2 : decode cX11_seen 2 = .ok (.invokevirtual 128, 3) := by decide +kernel
theorem dX11_seen_5 : decode cX11_seen 5 = .ok (.iload_n 2, 1) := by decide +kernel
theorem dX11_seen_6 : decode cX11_seen 6 = .ok (.invokestatic 176, 3) := by decide +kernel
theorem dX11_seen_9 : decode cX11_seen 9 = .ok (.aload_n 0, 1) := by decide +kernel
theorem dX11_seen_10 : decode cX11_seen 10 = .ok (.getfield 25, 3) := by decide +kernel
theorem dX11_seen_13 : decode cX11_seen 13 = .ok (.aload_n 0, 1) := by decide +kernel
theorem dX11_seen_14 : decode cX11_seen 14 = .ok (.getfield 10, 3) := by decide +kernel
theorem dX11_seen_17 : decode cX11_seen 17 = .ok (.iload_n 1, 1) := by decide +kernel
theorem dX11_seen_18 : decode cX11_seen 18 = .ok (.iload_n 2, 1) := by decide +kernel
theorem dX11_seen_19 : decode cX11_seen 19 = .ok (.invokevirtual 202, 3) := by decide +kernel
theorem dX11_seen_22 : decode cX11_seen 22 = .ok (.ireturn, 1) := by decide +kernel
set_option maxRecDepth 20000 in
theorem kb_116_0 : ∀ q ∈ tb_116_0, s_atx 116 yX11_seen cX11_seen q.1 q.2 := (List.forall_mem_cons.mpr ⟨⟨s_ldAn dX11_seen_0 rfl, s_mo_ldA _ _⟩, (List.forall_mem_cons.mpr ⟨⟨s_ldIn dX11_seen_1 rfl, s_mo_ldI _ _⟩, (List.forall_mem_cons.mpr ⟨⟨s_sV mk_116 mk_142 ok_142 (by decide +kernel) dX11_seen_2 w_762 w_764 wp_9 (Or.inr ⟨7, _, _, rfl, rfl⟩), s_h0 mk_116⟩, (List.forall_mem_cons.mpr ⟨⟨s_ldIn dX11_seen_5 rfl, s_mo_ldI _ _⟩, (List.forall_mem_cons.mpr ⟨⟨s_sS mk_116 mk_145 ok_145 (by decide +kernel) dX11_seen_6 w_837 w_838, s_h0 mk_116⟩, (List.forall_mem_cons.mpr ⟨⟨s_ldAn dX11_seen_9 rfl, s_mo_ldA _ _⟩, (List.forall_mem_cons.mpr ⟨⟨s_getf (ci := 7) (k := 3) rfl (by decide) inX11 w_300 dX11_seen_10, s_mo_getf _ _ _⟩, (List.forall_mem_cons.mpr ⟨⟨s_ldAn dX11_seen_13 rfl, s_mo_ldA _ _⟩, (List.forall_mem_cons.mpr ⟨⟨s_getf (ci := 7) (k := 0) rfl (by decide) inX11 w_297 dX11_seen_14, s_mo_getf _ _ _⟩, (List.forall_mem_cons.mpr ⟨⟨s_ldIn dX11_seen_17 rfl, s_mo_ldI _ _⟩, (List.forall_mem_cons.mpr ⟨⟨s_ldIn dX11_seen_18 rfl, s_mo_ldI _ _⟩, (List.forall_mem_cons.mpr ⟨⟨s_sV mk_116 mk_45 ok_45 (by decide +kernel) dX11_seen_19 w_912 w_913 w_914 (Or.inr ⟨2, _, _, rfl, rfl⟩), s_h0 mk_116⟩, (List.forall_mem_cons.mpr ⟨s_r2 mk_116 dX11_seen_22, (fun _ h => absurd h List.not_mem_nil)⟩)⟩)⟩)⟩)⟩)⟩)⟩)⟩)⟩)⟩)⟩)⟩)⟩)
theorem km_116 : ∀ t ∈ tm_116, s_tok 116 t := (List.forall_mem_cons.mpr ⟨s_lift mk_116 kb_116_0, (fun _ h => absurd h List.not_mem_nil)⟩)
theorem dX11_fined_0 : decode cX11_fined 0 = .ok (.aload_n 0, 1) := by decide +kernel
theorem dX11_fined_1 : decode cX11_fined 1 = .ok (.iload_n 1, 1) := by decide +kernel
theorem dX11_fined_2 : decode cX11_fined 2 = .ok (.invokevirtual 128, 3) := by decide +kernel
theorem dX11_fined_5 : decode cX11_fined 5 = .ok (.iload_n 2, 1) := by decide +kernel
theorem dX11_fined_6 : decode cX11_fined 6 = .ok (.invokestatic 176, 3) := by decide +kernel
theorem dX11_fined_9 : decode cX11_fined 9 = .ok (.aload_n 0, 1) := by decide +kernel
theorem dX11_fined_10 : decode cX11_fined 10 = .ok (.getfield 25, 3) := by decide +kernel
theorem dX11_fined_13 : decode cX11_fined 13 = .ok (.aload_n 0, 1) := by decide +kernel
theorem dX11_fined_14 : decode cX11_fined 14 = .ok (.getfield 10, 3) := by decide +kernel
theorem dX11_fined_17 : decode cX11_fined 17 = .ok (.iload_n 1, 1) := by decide +kernel
theorem dX11_fined_18 : decode cX11_fined 18 = .ok (.iload_n 2, 1) := by decide +kernel
theorem dX11_fined_19 : decode cX11_fined 19 = .ok (.invokevirtual 206, 3) := by decide +kernel
theorem dX11_fined_22 : decode cX11_fined 22 = .ok (.ireturn, 1) := by decide +kernel
set_option maxRecDepth 20000 in
theorem kb_117_0 : ∀ q ∈ tb_117_0, s_atx 117 yX11_fined cX11_fined q.1 q.2 := (List.forall_mem_cons.mpr ⟨⟨s_ldAn dX11_fined_0 rfl, s_mo_ldA _ _⟩, (List.forall_mem_cons.mpr ⟨⟨s_ldIn dX11_fined_1 rfl, s_mo_ldI _ _⟩, (List.forall_mem_cons.mpr ⟨⟨s_sV mk_117 mk_142 ok_142 (by decide +kernel) dX11_fined_2 w_762 w_764 wp_9 (Or.inr ⟨7, _, _, rfl, rfl⟩), s_h0 mk_117⟩, (List.forall_mem_cons.mpr ⟨⟨s_ldIn dX11_fined_5 rfl, s_mo_ldI _ _⟩, (List.forall_mem_cons.mpr ⟨⟨s_sS mk_117 mk_145 ok_145 (by decide +kernel) dX11_fined_6 w_837 w_838, s_h0 mk_117⟩, (List.forall_mem_cons.mpr ⟨⟨s_ldAn dX11_fined_9 rfl, s_mo_ldA _ _⟩, (List.forall_mem_cons.mpr ⟨⟨s_getf (ci := 7) (k := 3) rfl (by decide) inX11 w_300 dX11_fined_10, s_mo_getf _ _ _⟩, (List.forall_mem_cons.mpr ⟨⟨s_ldAn dX11_fined_13 rfl, s_mo_ldA _ _⟩, (List.forall_mem_cons.mpr ⟨⟨s_getf (ci := 7) (k := 0) rfl (by decide) inX11 w_297 dX11_fined_14, s_mo_getf _ _ _⟩, (List.forall_mem_cons.mpr ⟨⟨s_ldIn dX11_fined_17 rfl, s_mo_ldI _ _⟩, (List.forall_mem_cons.mpr ⟨⟨s_ldIn dX11_fined_18 rfl, s_mo_ldI _ _⟩, (List.forall_mem_cons.mpr ⟨⟨s_sV mk_117 mk_46 ok_46 (by decide +kernel) dX11_fined_19 w_940 w_941 w_942 (Or.inr ⟨2, _, _, rfl, rfl⟩), s_h0 mk_117⟩, (List.forall_mem_cons.mpr ⟨s_r1 mk_117 dX11_fined_22, (fun _ h => absurd h List.not_mem_nil)⟩)⟩)⟩)⟩)⟩)⟩)⟩)⟩)⟩)⟩)⟩)⟩)⟩)
theorem km_117 : ∀ t ∈ tm_117, s_tok 117 t := (List.forall_mem_cons.mpr ⟨s_lift mk_117 kb_117_0, (fun _ h => absurd h List.not_mem_nil)⟩)
theorem dX11_seer_0 : decode cX11_seer 0 = .ok (.aload_n 0, 1) := by decide +kernel
theorem dX11_seer_1 : decode cX11_seer 1 = .ok (.getfield 10, 3) := by decide +kernel
theorem dX11_seer_4 : decode cX11_seer 4 = .ok (.getfield 210, 3) := by decide +kernel
theorem dX11_seer_7 : decode cX11_seer 7 = .ok (.bipush 6, 2) := by decide +kernel
theorem dX11_seer_9 : decode cX11_seer 9 = .ok (.if_icmp .lt 11, 3) := by decide +kernel
theorem dX11_seer_12 : decode cX11_seer 12 = .ok (.new 116, 3) := by decide +kernel
theorem dX11_seer_15 : decode cX11_seer 15 = .ok (.dup, 1) := by decide +kernel
theorem dX11_seer_16 : decode cX11_seer 16 = .ok (.invokespecial 118, 3) := by decide +kernel
theorem dX11_seer_19 : decode cX11_seer 19 = .ok (.athrow, 1) := by decide +kernel
theorem dX11_seer_20 : decode cX11_seer 20 = .ok (.aload_n 0, 1) := by decide +kernel
theorem dX11_seer_21 : decode cX11_seer 21 = .ok (.getfield 10, 3) := by decide +kernel
theorem dX11_seer_24 : decode cX11_seer 24 = .ok (.dup, 1) := by decide +kernel
theorem dX11_seer_25 : decode cX11_seer 25 = .ok (.getfield 210, 3) := by decide +kernel
theorem dX11_seer_28 : decode cX11_seer 28 = .ok (.iconst 1, 1) := by decide +kernel
theorem dX11_seer_29 : decode cX11_seer 29 = .ok (.iadd, 1) := by decide +kernel
theorem dX11_seer_30 : decode cX11_seer 30 = .ok (.putfield 210, 3) := by decide +kernel
theorem dX11_seer_33 : decode cX11_seer 33 = .ok (.aload_n 0, 1) := by decide +kernel
theorem dX11_seer_34 : decode cX11_seer 34 = .ok (.getfield 10, 3) := by decide +kernel
theorem dX11_seer_37 : decode cX11_seer 37 = .ok (.getfield 210, 3) := by decide +kernel
theorem dX11_seer_40 : decode cX11_seer 40 = .ok (.iconst 1, 1) := by decide +kernel
theorem dX11_seer_41 : decode cX11_seer 41 = .ok (.isub, 1) := by decide +kernel
theorem dX11_seer_42 : decode cX11_seer 42 = .ok (.ireturn, 1) := by decide +kernel
set_option maxRecDepth 20000 in
theorem kb_118_0 : ∀ q ∈ tb_118_0, s_atx 118 yX11_seer cX11_seer q.1 q.2 := (List.forall_mem_cons.mpr ⟨⟨s_ldAn dX11_seer_0 rfl, s_mo_ldA _ _⟩, (List.forall_mem_cons.mpr ⟨⟨s_getf (ci := 7) (k := 0) rfl (by decide) inX11 w_297 dX11_seer_1, s_mo_getf _ _ _⟩, (List.forall_mem_cons.mpr ⟨⟨s_getf (ci := 0) (k := 14) rfl (by decide) inX0 w_113 dX11_seer_4, s_mo_getf _ _ _⟩, (List.forall_mem_cons.mpr ⟨⟨s_bipush dX11_seer_7 (by decide +kernel), s_mo_push _ _⟩, (List.forall_mem_cons.mpr ⟨⟨s_iclt dX11_seer_9 (by decide), s_mo_iclt _ _⟩, (List.forall_mem_cons.mpr ⟨s_t mk_118 dX11_seer_12 dX11_seer_15 dX11_seer_16 dX11_seer_19 (by decide +kernel) w_684 w_21 x_GlassCity_118g x_GlassCity_118b x_GlassCity_118o, (List.forall_mem_cons.mpr ⟨⟨s_ldAn dX11_seer_20 rfl, s_mo_ldA _ _⟩, (List.forall_mem_cons.mpr ⟨⟨s_getf (ci := 7) (k := 0) rfl (by decide) inX11 w_297 dX11_seer_21, s_mo_getf _ _ _⟩, (List.forall_mem_cons.mpr ⟨⟨s_dup dX11_seer_24, s_mo_dup _⟩, (List.forall_mem_cons.mpr ⟨⟨s_getf (ci := 0) (k := 14) rfl (by decide) inX0 w_113 dX11_seer_25, s_mo_getf _ _ _⟩, (List.forall_mem_cons.mpr ⟨⟨s_iconst dX11_seer_28 (by decide +kernel), s_mo_push _ _⟩, (List.forall_mem_cons.mpr ⟨⟨s_iadd dX11_seer_29, s_mo_bin _ _⟩, (List.forall_mem_cons.mpr ⟨⟨s_putI (ci := 0) (k := 14) rfl (by decide) inX0 tyX0_ok nmX0 rfl rfl w_113 dX11_seer_30, s_mo_putI _ _ _⟩, (List.forall_mem_cons.mpr ⟨⟨s_ldAn dX11_seer_33 rfl, s_mo_ldA _ _⟩, (List.forall_mem_cons.mpr ⟨⟨s_getf (ci := 7) (k := 0) rfl (by decide) inX11 w_297 dX11_seer_34, s_mo_getf _ _ _⟩, (List.forall_mem_cons.mpr ⟨⟨s_getf (ci := 0) (k := 14) rfl (by decide) inX0 w_113 dX11_seer_37, s_mo_getf _ _ _⟩, (List.forall_mem_cons.mpr ⟨⟨s_iconst dX11_seer_40 (by decide +kernel), s_mo_push _ _⟩, (List.forall_mem_cons.mpr ⟨⟨s_isub dX11_seer_41, s_mo_bin _ _⟩, (List.forall_mem_cons.mpr ⟨s_r1 mk_118 dX11_seer_42, (fun _ h => absurd h List.not_mem_nil)⟩)⟩)⟩)⟩)⟩)⟩)⟩)⟩)⟩)⟩)⟩)⟩)⟩)⟩)⟩)⟩)⟩)⟩)⟩)
theorem km_118 : ∀ t ∈ tm_118, s_tok 118 t := (List.forall_mem_cons.mpr ⟨s_lift mk_118 kb_118_0, (fun _ h => absurd h List.not_mem_nil)⟩)
theorem dX11_offer_0 : decode cX11_offer 0 = .ok (.aload_n 0, 1) := by decide +kernel
theorem dX11_offer_1 : decode cX11_offer 1 = .ok (.iload_n 1, 1) := by decide +kernel
theorem dX11_offer_2 : decode cX11_offer 2 = .ok (.invokevirtual 213, 3) := by decide +kernel
theorem dX11_offer_5 : decode cX11_offer 5 = .ok (.aload_n 0, 1) := by decide +kernel
theorem dX11_offer_6 : decode cX11_offer 6 = .ok (.iload_n 2, 1) := by decide +kernel
theorem dX11_offer_7 : decode cX11_offer 7 = .ok (.invokevirtual 128, 3) := by decide +kernel
theorem dX11_offer_10 : decode cX11_offer 10 = .ok (.iload_n 3, 1) := by decide +kernel
theorem dX11_offer_11 : decode cX11_offer 11 = .ok (.iconst 0, 1) := by decide +kernel
theorem dX11_offer_12 : decode cX11_offer 12 = .ok (.bipush 99, 2) := by decide +kernel
theorem dX11_offer_14 : decode cX11_offer 14 = .ok (.invokestatic 166, 3) := by decide +kernel
theorem dX11_offer_17 : decode cX11_offer 17 = .ok (.bipush 30, 2) := by decide +kernel
theorem dX11_offer_19 : decode cX11_offer 19 = .ok (.iload_n 1, 1) := by decide +kernel
theorem dX11_offer_20 : decode cX11_offer 20 = .ok (.imul, 1) := by decide +kernel
theorem dX11_offer_21 : decode cX11_offer 21 = .ok (.iload_n 2, 1) := by decide +kernel
theorem dX11_offer_22 : decode cX11_offer 22 = .ok (.iadd, 1) := by decide +kernel
theorem dX11_offer_23 : decode cX11_offer 23 = .ok (.istore 4, 2) := by decide +kernel
theorem dX11_offer_25 : decode cX11_offer 25 = .ok (.aload_n 0, 1) := by decide +kernel
theorem dX11_offer_26 : decode cX11_offer 26 = .ok (.getfield 10, 3) := by decide +kernel
theorem dX11_offer_29 : decode cX11_offer 29 = .ok (.getfield 216, 3) := by decide +kernel
theorem dX11_offer_32 : decode cX11_offer 32 = .ok (.iload 4, 2) := by decide +kernel
theorem dX11_offer_34 : decode cX11_offer 34 = .ok (.iaload, 1) := by decide +kernel
theorem dX11_offer_35 : decode cX11_offer 35 = .ok (.istore 5, 2) := by decide +kernel
theorem dX11_offer_37 : decode cX11_offer 37 = .ok (.aload_n 0, 1) := by decide +kernel
theorem dX11_offer_38 : decode cX11_offer 38 = .ok (.getfield 10, 3) := by decide +kernel
theorem dX11_offer_41 : decode cX11_offer 41 = .ok (.getfield 216, 3) := by decide +kernel
theorem dX11_offer_44 : decode cX11_offer 44 = .ok (.iload 4, 2) := by decide +kernel
theorem dX11_offer_46 : decode cX11_offer 46 = .ok (.iload_n 3, 1) := by decide +kernel
theorem dX11_offer_47 : decode cX11_offer 47 = .ok (.iastore, 1) := by decide +kernel
theorem dX11_offer_48 : decode cX11_offer 48 = .ok (.iload 5, 2) := by decide +kernel
theorem dX11_offer_50 : decode cX11_offer 50 = .ok (.ireturn, 1) := by decide +kernel
set_option maxRecDepth 20000 in
theorem kb_119_0 : ∀ q ∈ tb_119_0, s_atx 119 yX11_offer cX11_offer q.1 q.2 := (List.forall_mem_cons.mpr ⟨⟨s_ldAn dX11_offer_0 rfl, s_mo_ldA _ _⟩, (List.forall_mem_cons.mpr ⟨⟨s_ldIn dX11_offer_1 rfl, s_mo_ldI _ _⟩, (List.forall_mem_cons.mpr ⟨⟨s_sV mk_119 mk_143 ok_143 (by decide +kernel) dX11_offer_2 w_959 w_961 wp_13 (Or.inr ⟨7, _, _, rfl, rfl⟩), s_h0 mk_119⟩, (List.forall_mem_cons.mpr ⟨⟨s_ldAn dX11_offer_5 rfl, s_mo_ldA _ _⟩, (List.forall_mem_cons.mpr ⟨⟨s_ldIn dX11_offer_6 rfl, s_mo_ldI _ _⟩, (List.forall_mem_cons.mpr ⟨⟨s_sV mk_119 mk_142 ok_142 (by decide +kernel) dX11_offer_7 w_762 w_764 wp_9 (Or.inr ⟨7, _, _, rfl, rfl⟩), s_h0 mk_119⟩, (List.forall_mem_cons.mpr ⟨⟨s_ldIn dX11_offer_10 rfl, s_mo_ldI _ _⟩, (List.forall_mem_cons.mpr ⟨⟨s_iconst dX11_offer_11 (by decide +kernel), s_mo_push _ _⟩, (List.forall_mem_cons.mpr ⟨⟨s_bipush dX11_offer_12 (by decide +kernel), s_mo_push _ _⟩, (List.forall_mem_cons.mpr ⟨⟨s_sS mk_119 mk_147 ok_147 (by decide +kernel) dX11_offer_14 w_820 w_821, s_h0 mk_119⟩, (List.forall_mem_cons.mpr ⟨⟨s_bipush dX11_offer_17 (by decide +kernel), s_mo_push _ _⟩, (List.forall_mem_cons.mpr ⟨⟨s_ldIn dX11_offer_19 rfl, s_mo_ldI _ _⟩, (List.forall_mem_cons.mpr ⟨⟨s_imul dX11_offer_20, s_mo_bin _ _⟩, (List.forall_mem_cons.mpr ⟨⟨s_ldIn dX11_offer_21 rfl, s_mo_ldI _ _⟩, (List.forall_mem_cons.mpr ⟨⟨s_iadd dX11_offer_22, s_mo_bin _ _⟩, (List.forall_mem_cons.mpr ⟨⟨s_stI dX11_offer_23, s_mo_stI _ _⟩, (List.forall_mem_cons.mpr ⟨⟨s_ldAn dX11_offer_25 rfl, s_mo_ldA _ _⟩, (List.forall_mem_cons.mpr ⟨⟨s_getf (ci := 7) (k := 0) rfl (by decide) inX11 w_297 dX11_offer_26, s_mo_getf _ _ _⟩, (List.forall_mem_cons.mpr ⟨⟨s_getf (ci := 0) (k := 15) rfl (by decide) inX0 w_116 dX11_offer_29, s_mo_getf _ _ _⟩, (List.forall_mem_cons.mpr ⟨⟨s_ldI dX11_offer_32, s_mo_ldI _ _⟩, (List.forall_mem_cons.mpr ⟨⟨s_iald dX11_offer_34, s_mo_iald _⟩, (List.forall_mem_cons.mpr ⟨⟨s_stI dX11_offer_35, s_mo_stI _ _⟩, (List.forall_mem_cons.mpr ⟨⟨s_ldAn dX11_offer_37 rfl, s_mo_ldA _ _⟩, (List.forall_mem_cons.mpr ⟨⟨s_getf (ci := 7) (k := 0) rfl (by decide) inX11 w_297 dX11_offer_38, s_mo_getf _ _ _⟩, (List.forall_mem_cons.mpr ⟨⟨s_getf (ci := 0) (k := 15) rfl (by decide) inX0 w_116 dX11_offer_41, s_mo_getf _ _ _⟩, (List.forall_mem_cons.mpr ⟨⟨s_ldI dX11_offer_44, s_mo_ldI _ _⟩, (List.forall_mem_cons.mpr ⟨⟨s_ldIn dX11_offer_46 rfl, s_mo_ldI _ _⟩, (List.forall_mem_cons.mpr ⟨⟨s_iast dX11_offer_47, s_mo_iast _⟩, (List.forall_mem_cons.mpr ⟨⟨s_ldI dX11_offer_48, s_mo_ldI _ _⟩, (List.forall_mem_cons.mpr ⟨s_r1 mk_119 dX11_offer_50, (fun _ h => absurd h List.not_mem_nil)⟩)⟩)⟩)⟩)⟩)⟩)⟩)⟩)⟩)⟩)⟩)⟩)⟩)⟩)⟩)⟩)⟩)⟩)⟩)⟩)⟩)⟩)⟩)⟩)⟩)⟩)⟩)⟩)⟩)⟩)
theorem km_119 : ∀ t ∈ tm_119, s_tok 119 t := (List.forall_mem_cons.mpr ⟨s_lift mk_119 kb_119_0, (fun _ h => absurd h List.not_mem_nil)⟩)
theorem dX11_sale_0 : decode cX11_sale 0 = .ok (.iload_n 1, 1) := by decide +kernel
theorem dX11_sale_1 : decode cX11_sale 1 = .ok (.invokestatic 176, 3) := by decide +kernel
theorem dX11_sale_4 : decode cX11_sale 4 = .ok (.iload_n 2, 1) := by decide +kernel
theorem dX11_sale_5 : decode cX11_sale 5 = .ok (.iconst (-1), 1) := by decide +kernel
theorem dX11_sale_6 : decode cX11_sale 6 = .ok (.if_icmp .eq 8, 3) := by decide +kernel
theorem dX11_sale_9 : decode cX11_sale 9 = .ok (.aload_n 0, 1) := by decide +kernel
theorem dX11_sale_10 : decode cX11_sale 10 = .ok (.iload_n 2, 1) := by decide +kernel
theorem dX11_sale_11 : decode cX11_sale 11 = .ok (.invokevirtual 213, 3) := by decide +kernel
theorem dX11_sale_14 : decode cX11_sale 14 = .ok (.aload_n 0, 1) := by decide +kernel
theorem dX11_sale_15 : decode cX11_sale 15 = .ok (.getfield 66, 3) := by decide +kernel
theorem dX11_sale_18 : decode cX11_sale 18 = .ok (.aload_n 0, 1) := by decide +kernel
theorem dX11_sale_19 : decode cX11_sale 19 = .ok (.getfield 10, 3) := by decide +kernel
theorem dX11_sale_22 : decode cX11_sale 22 = .ok (.aload_n 0, 1) := by decide +kernel
theorem dX11_sale_23 : decode cX11_sale 23 = .ok (.getfield 25, 3) := by decide +kernel
theorem dX11_sale_26 : decode cX11_sale 26 = .ok (.iload_n 1, 1) := by decide +kernel
theorem dX11_sale_27 : decode cX11_sale 27 = .ok (.invokevirtual 219, 3) := by decide +kernel
theorem dX11_sale_30 : decode cX11_sale 30 = .ok (.iload_n 2, 1) := by decide +kernel
theorem dX11_sale_31 : decode cX11_sale 31 = .ok (.iconst (-1), 1) := by decide +kernel
theorem dX11_sale_32 : decode cX11_sale 32 = .ok (.if_icmp .ne 13, 3) := by decide +kernel
theorem dX11_sale_35 : decode cX11_sale 35 = .ok (.aload_n 0, 1) := by decide +kernel
theorem dX11_sale_36 : decode cX11_sale 36 = .ok (.getfield 66, 3) := by decide +kernel
theorem dX11_sale_39 : decode cX11_sale 39 = .ok (.invokevirtual 223, 3) := by decide +kernel
theorem dX11_sale_42 : decode cX11_sale 42 = .ok (.goto 11, 3) := by decide +kernel
theorem dX11_sale_45 : decode cX11_sale 45 = .ok (.aload_n 0, 1) := by decide +kernel
theorem dX11_sale_46 : decode cX11_sale 46 = .ok (.getfield 66, 3) := by decide +kernel
theorem dX11_sale_49 : decode cX11_sale 49 = .ok (.iload_n 2, 1) := by decide +kernel
theorem dX11_sale_50 : decode cX11_sale 50 = .ok (.invokevirtual 226, 3) := by decide +kernel
theorem dX11_sale_53 : decode cX11_sale 53 = .ok (.ireturn, 1) := by decide +kernel
set_option maxRecDepth 20000 in
theorem kb_120_0 : ∀ q ∈ tb_120_0, s_atx 120 yX11_sale cX11_sale q.1 q.2 := (List.forall_mem_cons.mpr ⟨⟨s_ldIn dX11_sale_0 rfl, s_mo_ldI _ _⟩, (List.forall_mem_cons.mpr ⟨⟨s_sS mk_120 mk_145 ok_145 (by decide +kernel) dX11_sale_1 w_837 w_838, s_h0 mk_120⟩, (List.forall_mem_cons.mpr ⟨⟨s_ldIn dX11_sale_4 rfl, s_mo_ldI _ _⟩, (List.forall_mem_cons.mpr ⟨⟨s_iconst dX11_sale_5 (by decide +kernel), s_mo_push _ _⟩, (List.forall_mem_cons.mpr ⟨⟨s_iceq dX11_sale_6 (by decide), s_mo_iceq _ _⟩, (List.forall_mem_cons.mpr ⟨⟨s_ldAn dX11_sale_9 rfl, s_mo_ldA _ _⟩, (List.forall_mem_cons.mpr ⟨⟨s_ldIn dX11_sale_10 rfl, s_mo_ldI _ _⟩, (List.forall_mem_cons.mpr ⟨⟨s_sV mk_120 mk_143 ok_143 (by decide +kernel) dX11_sale_11 w_959 w_961 wp_13 (Or.inr ⟨7, _, _, rfl, rfl⟩), s_h0 mk_120⟩, (List.forall_mem_cons.mpr ⟨⟨s_ldAn dX11_sale_14 rfl, s_mo_ldA _ _⟩, (List.forall_mem_cons.mpr ⟨⟨s_getf (ci := 7) (k := 10) rfl (by decide) inX11 w_307 dX11_sale_15, s_mo_getf _ _ _⟩, (List.forall_mem_cons.mpr ⟨⟨s_ldAn dX11_sale_18 rfl, s_mo_ldA _ _⟩, (List.forall_mem_cons.mpr ⟨⟨s_getf (ci := 7) (k := 0) rfl (by decide) inX11 w_297 dX11_sale_19, s_mo_getf _ _ _⟩, (List.forall_mem_cons.mpr ⟨⟨s_ldAn dX11_sale_22 rfl, s_mo_ldA _ _⟩, (List.forall_mem_cons.mpr ⟨⟨s_getf (ci := 7) (k := 3) rfl (by decide) inX11 w_300 dX11_sale_23, s_mo_getf _ _ _⟩, (List.forall_mem_cons.mpr ⟨⟨s_ldIn dX11_sale_26 rfl, s_mo_ldI _ _⟩, (List.forall_mem_cons.mpr ⟨⟨s_sV mk_120 mk_59 ok_59 (by decide +kernel) dX11_sale_27 w_970 w_971 w_972 (Or.inr ⟨3, _, _, rfl, rfl⟩), s_h0 mk_120⟩, (List.forall_mem_cons.mpr ⟨⟨s_ldIn dX11_sale_30 rfl, s_mo_ldI _ _⟩, (List.forall_mem_cons.mpr ⟨⟨s_iconst dX11_sale_31 (by decide +kernel), s_mo_push _ _⟩, (List.forall_mem_cons.mpr ⟨⟨s_icne dX11_sale_32 (by decide), s_mo_icne _ _⟩, (List.forall_mem_cons.mpr ⟨⟨s_ldAn dX11_sale_35 rfl, s_mo_ldA _ _⟩, (List.forall_mem_cons.mpr ⟨⟨s_getf (ci := 7) (k := 10) rfl (by decide) inX11 w_307 dX11_sale_36, s_mo_getf _ _ _⟩, (List.forall_mem_cons.mpr ⟨⟨s_sV mk_120 mk_64 ok_64 (by decide +kernel) dX11_sale_39 w_991 w_992 w_993 (Or.inr ⟨3, _, _, rfl, rfl⟩), s_h0 mk_120⟩, (List.forall_mem_cons.mpr ⟨⟨s_goto dX11_sale_42 (by decide), s_mo_goto _⟩, (List.forall_mem_cons.mpr ⟨⟨s_ldAn dX11_sale_45 rfl, s_mo_ldA _ _⟩, (List.forall_mem_cons.mpr ⟨⟨s_getf (ci := 7) (k := 10) rfl (by decide) inX11 w_307 dX11_sale_46, s_mo_getf _ _ _⟩, (List.forall_mem_cons.mpr ⟨⟨s_ldIn dX11_sale_49 rfl, s_mo_ldI _ _⟩, (List.forall_mem_cons.mpr ⟨⟨s_sV mk_120 mk_66 ok_66 (by decide +kernel) dX11_sale_50 w_1002 w_1003 w_1004 (Or.inr ⟨3, _, _, rfl, rfl⟩), s_h0 mk_120⟩, (List.forall_mem_cons.mpr ⟨s_r1 mk_120 dX11_sale_53, (fun _ h => absurd h List.not_mem_nil)⟩)⟩)⟩)⟩)⟩)⟩)⟩)⟩)⟩)⟩)⟩)⟩)⟩)⟩)⟩)⟩)⟩)⟩)⟩)⟩)⟩)⟩)⟩)⟩)⟩)⟩)⟩)⟩)
theorem km_120 : ∀ t ∈ tm_120, s_tok 120 t := (List.forall_mem_cons.mpr ⟨s_lift mk_120 kb_120_0, (fun _ h => absurd h List.not_mem_nil)⟩)
theorem dX11_lost_0 : decode cX11_lost 0 = .ok (.iload_n 1, 1) := by decide +kernel
theorem dX11_lost_1 : decode cX11_lost 1 = .ok (.invokestatic 176, 3) := by decide +kernel
theorem dX11_lost_4 : decode cX11_lost 4 = .ok (.aload_n 0, 1) := by decide +kernel
theorem dX11_lost_5 : decode cX11_lost 5 = .ok (.iload_n 2, 1) := by decide +kernel
theorem dX11_lost_6 : decode cX11_lost 6 = .ok (.invokevirtual 213, 3) := by decide +kernel
theorem dX11_lost_9 : decode cX11_lost 9 = .ok (.aload_n 0, 1) := by decide +kernel
theorem dX11_lost_10 : decode cX11_lost 10 = .ok (.getfield 66, 3) := by decide +kernel
theorem dX11_lost_13 : decode cX11_lost 13 = .ok (.aload_n 0, 1) := by decide +kernel
theorem dX11_lost_14 : decode cX11_lost 14 = .ok (.getfield 10, 3) := by decide +kernel
theorem dX11_lost_17 : decode cX11_lost 17 = .ok (.aload_n 0, 1) := by decide +kernel
theorem dX11_lost_18 : decode cX11_lost 18 = .ok (.getfield 25, 3) := by decide +kernel
theorem dX11_lost_21 : decode cX11_lost 21 = .ok (.iload_n 1, 1) := by decide +kernel
theorem dX11_lost_22 : decode cX11_lost 22 = .ok (.invokevirtual 219, 3) := by decide +kernel
theorem dX11_lost_25 : decode cX11_lost 25 = .ok (.aload_n 0, 1) := by decide +kernel
theorem dX11_lost_26 : decode cX11_lost 26 = .ok (.getfield 66, 3) := by decide +kernel
theorem dX11_lost_29 : decode cX11_lost 29 = .ok (.iload_n 2, 1) := by decide +kernel
theorem dX11_lost_30 : decode cX11_lost 30 = .ok (.invokevirtual 226, 3) := by decide +kernel
theorem dX11_lost_33 : decode cX11_lost 33 = .ok (.istore_n 3, 1) := by decide +kernel
theorem dX11_lost_34 : decode cX11_lost 34 = .ok (.iload_n 3, 1) := by decide +kernel
theorem dX11_lost_35 : decode cX11_lost 35 = .ok (.iconst (-1), 1) := by decide +kernel
theorem dX11_lost_36 : decode cX11_lost 36 = .ok (.if_icmp .ne 7, 3) := by decide +kernel
theorem dX11_lost_39 : decode cX11_lost 39 = .ok (.iconst 0, 1) := by decide +kernel
theorem dX11_lost_40 : decode cX11_lost 40 = .ok (.goto 17, 3) := by decide +kernel
theorem dX11_lost_43 : decode cX11_lost 43 = .ok (.aload_n 0, 1) := by decide +kernel
theorem dX11_lost_44 : decode cX11_lost 44 = .ok (.getfield 10, 3) := by decide +kernel
theorem dX11_lost_47 : decode cX11_lost 47 = .ok (.getfield 216, 3) := by decide +kernel
theorem dX11_lost_50 : decode cX11_lost 50 = .ok (.bipush 30, 2) := by decide +kernel
theorem dX11_lost_52 : decode cX11_lost 52 = .ok (.iload_n 2, 1) := by decide +kernel
theorem dX11_lost_53 : decode cX11_lost 53 = .ok (.imul, 1) := by decide +kernel
theorem dX11_lost_54 : decode cX11_lost 54 = .ok (.iload_n 3, 1) := by decide +kernel
theorem dX11_lost_55 : decode cX11_lost 55 = .ok (.iadd, 1) := by decide +kernel
theorem dX11_lost_56 : decode cX11_lost 56 = .ok (.iaload, 1) := by decide +kernel
theorem dX11_lost_57 : decode cX11_lost 57 = .ok (.istore 4, 2) := by decide +kernel
theorem dX11_lost_59 : decode cX11_lost 59 = .ok (.aload_n 0, 1) := by decide +kernel
theorem dX11_lost_60 : decode cX11_lost 60 = .ok (.getfield 66, 3) := by decide +kernel
theorem dX11_lost_63 : decode cX11_lost 63 = .ok (.iload_n 2, 1) := by decide +kernel
theorem dX11_lost_64 : decode cX11_lost 64 = .ok (.invokevirtual 229, 3) := by decide +kernel
theorem dX11_lost_67 : decode cX11_lost 67 = .ok (.aload_n 0, 1) := by decide +kernel
theorem dX11_lost_68 : decode cX11_lost 68 = .ok (.getfield 66, 3) := by decide +kernel
theorem dX11_lost_71 : decode cX11_lost 71 = .ok (.invokevirtual 223, 3) := by decide +kernel
theorem dX11_lost_74 : decode cX11_lost 74 = .ok (.iload 4, 2) := by decide +kernel
theorem dX11_lost_76 : decode cX11_lost 76 = .ok (.isub, 1) := by decide +kernel
theorem dX11_lost_77 : decode cX11_lost 77 = .ok (.isub, 1) := by decide +kernel
theorem dX11_lost_78 : decode cX11_lost 78 = .ok (.ireturn, 1) := by decide +kernel
set_option maxRecDepth 20000 in
theorem kb_121_0 : ∀ q ∈ tb_121_0, s_atx 121 yX11_lost cX11_lost q.1 q.2 := (List.forall_mem_cons.mpr ⟨⟨s_ldIn dX11_lost_0 rfl, s_mo_ldI _ _⟩, (List.forall_mem_cons.mpr ⟨⟨s_sS mk_121 mk_145 ok_145 (by decide +kernel) dX11_lost_1 w_837 w_838, s_h0 mk_121⟩, (List.forall_mem_cons.mpr ⟨⟨s_ldAn dX11_lost_4 rfl, s_mo_ldA _ _⟩, (List.forall_mem_cons.mpr ⟨⟨s_ldIn dX11_lost_5 rfl, s_mo_ldI _ _⟩, (List.forall_mem_cons.mpr ⟨⟨s_sV mk_121 mk_143 ok_143 (by decide +kernel) dX11_lost_6 w_959 w_961 wp_13 (Or.inr ⟨7, _, _, rfl, rfl⟩), s_h0 mk_121⟩, (List.forall_mem_cons.mpr ⟨⟨s_ldAn dX11_lost_9 rfl, s_mo_ldA _ _⟩, (List.forall_mem_cons.mpr ⟨⟨s_getf (ci := 7) (k := 10) rfl (by decide) inX11 w_307 dX11_lost_10, s_mo_getf _ _ _⟩, (List.forall_mem_cons.mpr ⟨⟨s_ldAn dX11_lost_13 rfl, s_mo_ldA _ _⟩, (List.forall_mem_cons.mpr ⟨⟨s_getf (ci := 7) (k := 0) rfl (by decide) inX11 w_297 dX11_lost_14, s_mo_getf _ _ _⟩, (List.forall_mem_cons.mpr ⟨⟨s_ldAn dX11_lost_17 rfl, s_mo_ldA _ _⟩, (List.forall_mem_cons.mpr ⟨⟨s_getf (ci := 7) (k := 3) rfl (by decide) inX11 w_300 dX11_lost_18, s_mo_getf _ _ _⟩, (List.forall_mem_cons.mpr ⟨⟨s_ldIn dX11_lost_21 rfl, s_mo_ldI _ _⟩, (List.forall_mem_cons.mpr ⟨⟨s_sV mk_121 mk_59 ok_59 (by decide +kernel) dX11_lost_22 w_970 w_971 w_972 (Or.inr ⟨3, _, _, rfl, rfl⟩), s_h0 mk_121⟩, (List.forall_mem_cons.mpr ⟨⟨s_ldAn dX11_lost_25 rfl, s_mo_ldA _ _⟩, (List.forall_mem_cons.mpr ⟨⟨s_getf (ci := 7) (k := 10) rfl (by decide) inX11 w_307 dX11_lost_26, s_mo_getf _ _ _⟩, (List.forall_mem_cons.mpr ⟨⟨s_ldIn dX11_lost_29 rfl, s_mo_ldI _ _⟩, (List.forall_mem_cons.mpr ⟨⟨s_sV mk_121 mk_66 ok_66 (by decide +kernel) dX11_lost_30 w_1002 w_1003 w_1004 (Or.inr ⟨3, _, _, rfl, rfl⟩), s_h0 mk_121⟩, (List.forall_mem_cons.mpr ⟨⟨s_stIn dX11_lost_33 rfl, s_mo_stI _ _⟩, (List.forall_mem_cons.mpr ⟨⟨s_ldIn dX11_lost_34 rfl, s_mo_ldI _ _⟩, (List.forall_mem_cons.mpr ⟨⟨s_iconst dX11_lost_35 (by decide +kernel), s_mo_push _ _⟩, (List.forall_mem_cons.mpr ⟨⟨s_icne dX11_lost_36 (by decide), s_mo_icne _ _⟩, (List.forall_mem_cons.mpr ⟨⟨s_iconst dX11_lost_39 (by decide +kernel), s_mo_push _ _⟩, (List.forall_mem_cons.mpr ⟨⟨s_goto dX11_lost_40 (by decide), s_mo_goto _⟩, (List.forall_mem_cons.mpr ⟨⟨s_ldAn dX11_lost_43 rfl, s_mo_ldA _ _⟩, (List.forall_mem_cons.mpr ⟨⟨s_getf (ci := 7) (k := 0) rfl (by decide) inX11 w_297 dX11_lost_44, s_mo_getf _ _ _⟩, (List.forall_mem_cons.mpr ⟨⟨s_getf (ci := 0) (k := 15) rfl (by decide) inX0 w_116 dX11_lost_47, s_mo_getf _ _ _⟩, (List.forall_mem_cons.mpr ⟨⟨s_bipush dX11_lost_50 (by decide +kernel), s_mo_push _ _⟩, (List.forall_mem_cons.mpr ⟨⟨s_ldIn dX11_lost_52 rfl, s_mo_ldI _ _⟩, (List.forall_mem_cons.mpr ⟨⟨s_imul dX11_lost_53, s_mo_bin _ _⟩, (List.forall_mem_cons.mpr ⟨⟨s_ldIn dX11_lost_54 rfl, s_mo_ldI _ _⟩, (List.forall_mem_cons.mpr ⟨⟨s_iadd dX11_lost_55, s_mo_bin _ _⟩, (List.forall_mem_cons.mpr ⟨⟨s_iald dX11_lost_56, s_mo_iald _⟩, (List.forall_mem_cons.mpr ⟨⟨s_stI dX11_lost_57, s_mo_stI _ _⟩, (List.forall_mem_cons.mpr ⟨⟨s_ldAn dX11_lost_59 rfl, s_mo_ldA _ _⟩, (List.forall_mem_cons.mpr ⟨⟨s_getf (ci := 7) (k := 10) rfl (by decide) inX11 w_307 dX11_lost_60, s_mo_getf _ _ _⟩, (List.forall_mem_cons.mpr ⟨⟨s_ldIn dX11_lost_63 rfl, s_mo_ldI _ _⟩, (fun _ h => absurd h List.not_mem_nil)⟩)⟩)⟩)⟩)⟩)⟩)⟩)⟩)⟩)⟩)⟩)⟩)⟩)⟩)⟩)⟩)⟩)⟩)⟩)⟩)⟩)⟩)⟩)⟩)⟩)⟩)⟩)⟩)⟩)⟩)⟩)⟩)⟩)⟩)⟩)⟩)
set_option maxRecDepth 20000 in
theorem kb_121_1 : ∀ q ∈ tb_121_1, s_atx 121 yX11_lost cX11_lost q.1 q.2 := (List.forall_mem_cons.mpr ⟨⟨s_sV mk_121 mk_65 ok_65 (by decide +kernel) dX11_lost_64 w_1014 w_1015 w_1016 (Or.inr ⟨3, _, _, rfl, rfl⟩), s_h0 mk_121⟩, (List.forall_mem_cons.mpr ⟨⟨s_ldAn dX11_lost_67 rfl, s_mo_ldA _ _⟩, (List.forall_mem_cons.mpr ⟨⟨s_getf (ci := 7) (k := 10) rfl (by decide) inX11 w_307 dX11_lost_68, s_mo_getf _ _ _⟩, (List.forall_mem_cons.mpr ⟨⟨s_sV mk_121 mk_64 ok_64 (by decide +kernel) dX11_lost_71 w_991 w_992 w_993 (Or.inr ⟨3, _, _, rfl, rfl⟩), s_h0 mk_121⟩, (List.forall_mem_cons.mpr ⟨⟨s_ldI dX11_lost_74, s_mo_ldI _ _⟩, (List.forall_mem_cons.mpr ⟨⟨s_isub dX11_lost_76, s_mo_bin _ _⟩, (List.forall_mem_cons.mpr ⟨⟨s_isub dX11_lost_77, s_mo_bin _ _⟩, (List.forall_mem_cons.mpr ⟨s_r1 mk_121 dX11_lost_78, (fun _ h => absurd h List.not_mem_nil)⟩)⟩)⟩)⟩)⟩)⟩)⟩)⟩)
theorem km_121 : ∀ t ∈ tm_121, s_tok 121 t := (List.forall_mem_cons.mpr ⟨s_lift mk_121 kb_121_0, (List.forall_mem_cons.mpr ⟨s_lift mk_121 kb_121_1, (fun _ h => absurd h List.not_mem_nil)⟩)⟩)
theorem dX11_share_0 : decode cX11_share 0 = .ok (.aload_n 0, 1) := by decide +kernel
theorem dX11_share_1 : decode cX11_share 1 = .ok (.iload_n 1, 1) := by decide +kernel
theorem dX11_share_2 : decode cX11_share 2 = .ok (.invokevirtual 128, 3) := by decide +kernel
theorem dX11_share_5 : decode cX11_share 5 = .ok (.iload_n 2, 1) := by decide +kernel
theorem dX11_share_6 : decode cX11_share 6 = .ok (.invokestatic 199, 3) := by decide +kernel
theorem dX11_share_9 : decode cX11_share 9 = .ok (.iload_n 3, 1) := by decide +kernel
theorem dX11_share_10 : decode cX11_share 10 = .ok (.iconst 0, 1) := by decide +kernel
theorem dX11_share_11 : decode cX11_share 11 = .ok (.sipush 9999, 3) := by decide +kernel
theorem dX11_share_14 : decode cX11_share 14 = .ok (.invokestatic 166, 3) := by decide +kernel
theorem dX11_share_17 : decode cX11_share 17 = .ok (.aload_n 0, 1) := by decide +kernel
theorem dX11_share_18 : decode cX11_share 18 = .ok (.getfield 10, 3) := by decide +kernel
theorem dX11_share_21 : decode cX11_share 21 = .ok (.iload_n 1, 1) := by decide +kernel
theorem dX11_share_22 : decode cX11_share 22 = .ok (.iload_n 2, 1) := by decide +kernel
theorem dX11_share_23 : decode cX11_share 23 = .ok (.iload_n 3, 1) := by decide +kernel
theorem dX11_share_24 : decode cX11_share 24 = .ok (.invokestatic 232, 3) := by decide +kernel
theorem dX11_share_27 : decode cX11_share 27 = .ok (.ireturn, 1) := by decide +kernel
set_option maxRecDepth 20000 in
theorem kb_122_0 : ∀ q ∈ tb_122_0, s_atx 122 yX11_share cX11_share q.1 q.2 := (List.forall_mem_cons.mpr ⟨⟨s_ldAn dX11_share_0 rfl, s_mo_ldA _ _⟩, (List.forall_mem_cons.mpr ⟨⟨s_ldIn dX11_share_1 rfl, s_mo_ldI _ _⟩, (List.forall_mem_cons.mpr ⟨⟨s_sV mk_122 mk_142 ok_142 (by decide +kernel) dX11_share_2 w_762 w_764 wp_9 (Or.inr ⟨7, _, _, rfl, rfl⟩), s_h0 mk_122⟩, (List.forall_mem_cons.mpr ⟨⟨s_ldIn dX11_share_5 rfl, s_mo_ldI _ _⟩, (List.forall_mem_cons.mpr ⟨⟨s_sS mk_122 mk_146 ok_146 (by decide +kernel) dX11_share_6 w_902 w_903, s_h0 mk_122⟩, (List.forall_mem_cons.mpr ⟨⟨s_ldIn dX11_share_9 rfl, s_mo_ldI _ _⟩, (List.forall_mem_cons.mpr ⟨⟨s_iconst dX11_share_10 (by decide +kernel), s_mo_push _ _⟩, (List.forall_mem_cons.mpr ⟨⟨s_sipush dX11_share_11 (by decide +kernel), s_mo_push _ _⟩, (List.forall_mem_cons.mpr ⟨⟨s_sS mk_122 mk_147 ok_147 (by decide +kernel) dX11_share_14 w_820 w_821, s_h0 mk_122⟩, (List.forall_mem_cons.mpr ⟨⟨s_ldAn dX11_share_17 rfl, s_mo_ldA _ _⟩, (List.forall_mem_cons.mpr ⟨⟨s_getf (ci := 7) (k := 0) rfl (by decide) inX11 w_297 dX11_share_18, s_mo_getf _ _ _⟩, (List.forall_mem_cons.mpr ⟨⟨s_ldIn dX11_share_21 rfl, s_mo_ldI _ _⟩, (List.forall_mem_cons.mpr ⟨⟨s_ldIn dX11_share_22 rfl, s_mo_ldI _ _⟩, (List.forall_mem_cons.mpr ⟨⟨s_ldIn dX11_share_23 rfl, s_mo_ldI _ _⟩, (List.forall_mem_cons.mpr ⟨⟨s_sS mk_122 mk_37 ok_37 (by decide +kernel) dX11_share_24 w_1025 w_1026, s_h0 mk_122⟩, (List.forall_mem_cons.mpr ⟨s_r1 mk_122 dX11_share_27, (fun _ h => absurd h List.not_mem_nil)⟩)⟩)⟩)⟩)⟩)⟩)⟩)⟩)⟩)⟩)⟩)⟩)⟩)⟩)⟩)⟩)
theorem km_122 : ∀ t ∈ tm_122, s_tok 122 t := (List.forall_mem_cons.mpr ⟨s_lift mk_122 kb_122_0, (fun _ h => absurd h List.not_mem_nil)⟩)
theorem dX11_weakest_0 : decode cX11_weakest 0 = .ok (.iload_n 1, 1) := by decide +kernel
theorem dX11_weakest_1 : decode cX11_weakest 1 = .ok (.invokestatic 176, 3) := by decide +kernel
theorem dX11_weakest_4 : decode cX11_weakest 4 = .ok (.iconst 0, 1) := by decide +kernel
theorem dX11_weakest_5 : decode cX11_weakest 5 = .ok (.istore_n 2, 1) := by decide +kernel
theorem dX11_weakest_6 : decode cX11_weakest 6 = .ok (.aload_n 0, 1) := by decide +kernel
theorem dX11_weakest_7 : decode cX11_weakest 7 = .ok (.getfield 10, 3) := by decide +kernel
theorem dX11_weakest_10 : decode cX11_weakest 10 = .ok (.iconst 0, 1) := by decide +kernel
theorem dX11_weakest_11 : decode cX11_weakest 11 = .ok (.invokevirtual 150, 3) := by decide +kernel
theorem dX11_weakest_14 : decode cX11_weakest 14 = .ok (.aload_n 0, 1) := by decide +kernel
theorem dX11_weakest_15 : decode cX11_weakest 15 = .ok (.getfield 10, 3) := by decide +kernel
theorem dX11_weakest_18 : decode cX11_weakest 18 = .ok (.iconst 0, 1) := by decide +kernel
theorem dX11_weakest_19 : decode cX11_weakest 19 = .ok (.iload_n 1, 1) := by decide +kernel
theorem dX11_weakest_20 : decode cX11_weakest 20 = .ok (.invokevirtual 179, 3) := by decide +kernel
theorem dX11_weakest_23 : decode cX11_weakest 23 = .ok (.isub, 1) := by decide +kernel
theorem dX11_weakest_24 : decode cX11_weakest 24 = .ok (.istore_n 3, 1) := by decide +kernel
theorem dX11_weakest_25 : decode cX11_weakest 25 = .ok (.iconst 1, 1) := by decide +kernel
theorem dX11_weakest_26 : decode cX11_weakest 26 = .ok (.istore 4, 2) := by decide +kernel
theorem dX11_weakest_28 : decode cX11_weakest 28 = .ok (.iload 4, 2) := by decide +kernel
theorem dX11_weakest_30 : decode cX11_weakest 30 = .ok (.aload_n 0, 1) := by decide +kernel
theorem dX11_weakest_31 : decode cX11_weakest 31 = .ok (.getfield 10, 3) := by decide +kernel
theorem dX11_weakest_34 : decode cX11_weakest 34 = .ok (.getfield 187, 3) := by decide +kernel
theorem dX11_weakest_37 : decode cX11_weakest 37 = .ok (.if_icmp .ge 43, 3) := by decide +kernel
theorem dX11_weakest_40 : decode cX11_weakest 40 = .ok (.aload_n 0, 1) := by decide +kernel
theorem dX11_weakest_41 : decode cX11_weakest 41 = .ok (.getfield 10, 3) := by decide +kernel
theorem dX11_weakest_44 : decode cX11_weakest 44 = .ok (.iload 4, 2) := by decide +kernel
theorem dX11_weakest_46 : decode cX11_weakest 46 = .ok (.invokevirtual 150, 3) := by decide +kernel
theorem dX11_weakest_49 : decode cX11_weakest 49 = .ok (.aload_n 0, 1) := by decide +kernel
theorem dX11_weakest_50 : decode cX11_weakest 50 = .ok (.getfield 10, 3) := by decide +kernel
theorem dX11_weakest_53 : decode cX11_weakest 53 = .ok (.iload 4, 2) := by decide +kernel
theorem dX11_weakest_55 : decode cX11_weakest 55 = .ok (.iload_n 1, 1) := by decide +kernel
theorem dX11_weakest_56 : decode cX11_weakest 56 = .ok (.invokevirtual 179, 3) := by decide +kernel
theorem dX11_weakest_59 : decode cX11_weakest 59 = .ok (.isub, 1) := by decide +kernel
theorem dX11_weakest_60 : decode cX11_weakest 60 = .ok (.istore 5, 2) := by decide +kernel
theorem dX11_weakest_62 : decode cX11_weakest 62 = .ok (.iload 5, 2) := by decide +kernel
theorem dX11_weakest_64 : decode cX11_weakest 64 = .ok (.iload_n 3, 1) := by decide +kernel
theorem dX11_weakest_65 : decode cX11_weakest 65 = .ok (.if_icmp .ge 9, 3) := by decide +kernel
theorem dX11_weakest_68 : decode cX11_weakest 68 = .ok (.iload 5, 2) := by decide +kernel
theorem dX11_weakest_70 : decode cX11_weakest 70 = .ok (.istore_n 3, 1) := by decide +kernel
theorem dX11_weakest_71 : decode cX11_weakest 71 = .ok (.iload 4, 2) := by decide +kernel
theorem dX11_weakest_73 : decode cX11_weakest 73 = .ok (.istore_n 2, 1) := by decide +kernel
theorem dX11_weakest_74 : decode cX11_weakest 74 = .ok (.iinc 4 1, 3) := by decide +kernel
theorem dX11_weakest_77 : decode cX11_weakest 77 = .ok (.goto (-49), 3) := by decide +kernel
theorem dX11_weakest_80 : decode cX11_weakest 80 = .ok (.iload_n 2, 1) := by decide +kernel
theorem dX11_weakest_81 : decode cX11_weakest 81 = .ok (.ireturn, 1) := by decide +kernel
set_option maxRecDepth 20000 in
theorem kb_123_0 : ∀ q ∈ tb_123_0, s_atx 123 yX11_weakest cX11_weakest q.1 q.2 := (List.forall_mem_cons.mpr ⟨⟨s_ldIn dX11_weakest_0 rfl, s_mo_ldI _ _⟩, (List.forall_mem_cons.mpr ⟨⟨s_sS mk_123 mk_145 ok_145 (by decide +kernel) dX11_weakest_1 w_837 w_838, s_h0 mk_123⟩, (List.forall_mem_cons.mpr ⟨⟨s_iconst dX11_weakest_4 (by decide +kernel), s_mo_push _ _⟩, (List.forall_mem_cons.mpr ⟨⟨s_stIn dX11_weakest_5 rfl, s_mo_stI _ _⟩, (List.forall_mem_cons.mpr ⟨⟨s_ldAn dX11_weakest_6 rfl, s_mo_ldA _ _⟩, (List.forall_mem_cons.mpr ⟨⟨s_getf (ci := 7) (k := 0) rfl (by decide) inX11 w_297 dX11_weakest_7, s_mo_getf _ _ _⟩, (List.forall_mem_cons.mpr ⟨⟨s_iconst dX11_weakest_10 (by decide +kernel), s_mo_push _ _⟩, (List.forall_mem_cons.mpr ⟨⟨s_sV mk_123 mk_7 ok_7 (by decide +kernel) dX11_weakest_11 w_781 w_782 w_783 (Or.inr ⟨0, _, _, rfl, rfl⟩), s_h0 mk_123⟩, (List.forall_mem_cons.mpr ⟨⟨s_ldAn dX11_weakest_14 rfl, s_mo_ldA _ _⟩, (List.forall_mem_cons.mpr ⟨⟨s_getf (ci := 7) (k := 0) rfl (by decide) inX11 w_297 dX11_weakest_15, s_mo_getf _ _ _⟩, (List.forall_mem_cons.mpr ⟨⟨s_iconst dX11_weakest_18 (by decide +kernel), s_mo_push _ _⟩, (List.forall_mem_cons.mpr ⟨⟨s_ldIn dX11_weakest_19 rfl, s_mo_ldI _ _⟩, (List.forall_mem_cons.mpr ⟨⟨s_sV mk_123 mk_11 ok_11 (by decide +kernel) dX11_weakest_20 w_840 w_841 w_842 (Or.inr ⟨0, _, _, rfl, rfl⟩), s_h0 mk_123⟩, (List.forall_mem_cons.mpr ⟨⟨s_isub dX11_weakest_23, s_mo_bin _ _⟩, (List.forall_mem_cons.mpr ⟨⟨s_stIn dX11_weakest_24 rfl, s_mo_stI _ _⟩, (List.forall_mem_cons.mpr ⟨⟨s_iconst dX11_weakest_25 (by decide +kernel), s_mo_push _ _⟩, (List.forall_mem_cons.mpr ⟨⟨s_stI dX11_weakest_26, s_mo_stI _ _⟩, (List.forall_mem_cons.mpr ⟨⟨s_ldI dX11_weakest_28, s_mo_ldI _ _⟩, (List.forall_mem_cons.mpr ⟨⟨s_ldAn dX11_weakest_30 rfl, s_mo_ldA _ _⟩, (List.forall_mem_cons.mpr ⟨⟨s_getf (ci := 7) (k := 0) rfl (by decide) inX11 w_297 dX11_weakest_31, s_mo_getf _ _ _⟩, (List.forall_mem_cons.mpr ⟨⟨s_getf (ci := 0) (k := 2) rfl (by decide) inX0 w_63 dX11_weakest_34, s_mo_getf _ _ _⟩, (List.forall_mem_cons.mpr ⟨⟨s_icge dX11_weakest_37 (by decide), s_mo_icge _ _⟩, (List.forall_mem_cons.mpr ⟨⟨s_ldAn dX11_weakest_40 rfl, s_mo_ldA _ _⟩, (List.forall_mem_cons.mpr ⟨⟨s_getf (ci := 7) (k := 0) rfl (by decide) inX11 w_297 dX11_weakest_41, s_mo_getf _ _ _⟩, (List.forall_mem_cons.mpr ⟨⟨s_ldI dX11_weakest_44, s_mo_ldI _ _⟩, (List.forall_mem_cons.mpr ⟨⟨s_sV mk_123 mk_7 ok_7 (by decide +kernel) dX11_weakest_46 w_781 w_782 w_783 (Or.inr ⟨0, _, _, rfl, rfl⟩), s_h0 mk_123⟩, (List.forall_mem_cons.mpr ⟨⟨s_ldAn dX11_weakest_49 rfl, s_mo_ldA _ _⟩, (List.forall_mem_cons.mpr ⟨⟨s_getf (ci := 7) (k := 0) rfl (by decide) inX11 w_297 dX11_weakest_50, s_mo_getf _ _ _⟩, (List.forall_mem_cons.mpr ⟨⟨s_ldI dX11_weakest_53, s_mo_ldI _ _⟩, (List.forall_mem_cons.mpr ⟨⟨s_ldIn dX11_weakest_55 rfl, s_mo_ldI _ _⟩, (List.forall_mem_cons.mpr ⟨⟨s_sV mk_123 mk_11 ok_11 (by decide +kernel) dX11_weakest_56 w_840 w_841 w_842 (Or.inr ⟨0, _, _, rfl, rfl⟩), s_h0 mk_123⟩, (List.forall_mem_cons.mpr ⟨⟨s_isub dX11_weakest_59, s_mo_bin _ _⟩, (List.forall_mem_cons.mpr ⟨⟨s_stI dX11_weakest_60, s_mo_stI _ _⟩, (List.forall_mem_cons.mpr ⟨⟨s_ldI dX11_weakest_62, s_mo_ldI _ _⟩, (fun _ h => absurd h List.not_mem_nil)⟩)⟩)⟩)⟩)⟩)⟩)⟩)⟩)⟩)⟩)⟩)⟩)⟩)⟩)⟩)⟩)⟩)⟩)⟩)⟩)⟩)⟩)⟩)⟩)⟩)⟩)⟩)⟩)⟩)⟩)⟩)⟩)⟩)⟩)
set_option maxRecDepth 20000 in
theorem kb_123_1 : ∀ q ∈ tb_123_1, s_atx 123 yX11_weakest cX11_weakest q.1 q.2 := (List.forall_mem_cons.mpr ⟨⟨s_ldIn dX11_weakest_64 rfl, s_mo_ldI _ _⟩, (List.forall_mem_cons.mpr ⟨⟨s_icge dX11_weakest_65 (by decide), s_mo_icge _ _⟩, (List.forall_mem_cons.mpr ⟨⟨s_ldI dX11_weakest_68, s_mo_ldI _ _⟩, (List.forall_mem_cons.mpr ⟨⟨s_stIn dX11_weakest_70 rfl, s_mo_stI _ _⟩, (List.forall_mem_cons.mpr ⟨⟨s_ldI dX11_weakest_71, s_mo_ldI _ _⟩, (List.forall_mem_cons.mpr ⟨⟨s_stIn dX11_weakest_73 rfl, s_mo_stI _ _⟩, (List.forall_mem_cons.mpr ⟨⟨s_inc dX11_weakest_74 (by decide +kernel), s_mo_inc _ _ _⟩, (List.forall_mem_cons.mpr ⟨⟨s_goto dX11_weakest_77 (by decide), s_mo_goto _⟩, (List.forall_mem_cons.mpr ⟨⟨s_ldIn dX11_weakest_80 rfl, s_mo_ldI _ _⟩, (List.forall_mem_cons.mpr ⟨s_r1 mk_123 dX11_weakest_81, (fun _ h => absurd h List.not_mem_nil)⟩)⟩)⟩)⟩)⟩)⟩)⟩)⟩)⟩)⟩)
theorem km_123 : ∀ t ∈ tm_123, s_tok 123 t := (List.forall_mem_cons.mpr ⟨s_lift mk_123 kb_123_0, (List.forall_mem_cons.mpr ⟨s_lift mk_123 kb_123_1, (fun _ h => absurd h List.not_mem_nil)⟩)⟩)
theorem dX11_strengthen_0 : decode cX11_strengthen 0 = .ok (.aload_n 0, 1) := by decide +kernel
theorem dX11_strengthen_1 : decode cX11_strengthen 1 = .ok (.iload_n 1, 1) := by decide +kernel
theorem dX11_strengthen_2 : decode cX11_strengthen 2 = .ok (.iload_n 2, 1) := by decide +kernel
theorem dX11_strengthen_3 : decode cX11_strengthen 3 = .ok (.iload_n 3, 1) := by decide +kernel
theorem dX11_strengthen_4 : decode cX11_strengthen 4 = .ok (.invokevirtual 238, 3) := by decide +kernel
theorem dX11_strengthen_7 : decode cX11_strengthen 7 = .ok (.iload 4, 2) := by decide +kernel
theorem dX11_strengthen_9 : decode cX11_strengthen 9 = .ok (.iconst 0, 1) := by decide +kernel
theorem dX11_strengthen_10 : decode cX11_strengthen 10 = .ok (.sipush 999, 3) := by decide +kernel
theorem dX11_strengthen_13 : decode cX11_strengthen 13 = .ok (.invokestatic 166, 3) := by decide +kernel
theorem dX11_strengthen_16 : decode cX11_strengthen 16 = .ok (.aload_n 0, 1) := by decide +kernel
theorem dX11_strengthen_17 : decode cX11_strengthen 17 = .ok (.getfield 59, 3) := by decide +kernel
theorem dX11_strengthen_20 : decode cX11_strengthen 20 = .ok (.aload_n 0, 1) := by decide +kernel
theorem dX11_strengthen_21 : decode cX11_strengthen 21 = .ok (.getfield 10, 3) := by decide +kernel
theorem dX11_strengthen_24 : decode cX11_strengthen 24 = .ok (.iload_n 1, 1) := by decide +kernel
theorem dX11_strengthen_25 : decode cX11_strengthen 25 = .ok (.iload_n 2, 1) := by decide +kernel
theorem dX11_strengthen_26 : decode cX11_strengthen 26 = .ok (.iload_n 3, 1) := by decide +kernel
theorem dX11_strengthen_27 : decode cX11_strengthen 27 = .ok (.invokevirtual 241, 3) := by decide +kernel
theorem dX11_strengthen_30 : decode cX11_strengthen 30 = .ok (.aload_n 0, 1) := by decide +kernel
theorem dX11_strengthen_31 : decode cX11_strengthen 31 = .ok (.getfield 59, 3) := by decide +kernel
theorem dX11_strengthen_34 : decode cX11_strengthen 34 = .ok (.aload_n 0, 1) := by decide +kernel
theorem dX11_strengthen_35 : decode cX11_strengthen 35 = .ok (.getfield 10, 3) := by decide +kernel
theorem dX11_strengthen_38 : decode cX11_strengthen 38 = .ok (.iload 4, 2) := by decide +kernel
theorem dX11_strengthen_40 : decode cX11_strengthen 40 = .ok (.invokevirtual 245, 3) := by decide +kernel
theorem dX11_strengthen_43 : decode cX11_strengthen 43 = .ok (.ireturn, 1) := by decide +kernel
set_option maxRecDepth 20000 in
theorem kb_124_0 : ∀ q ∈ tb_124_0, s_atx 124 yX11_strengthen cX11_strengthen q.1 q.2 := (List.forall_mem_cons.mpr ⟨⟨s_ldAn dX11_strengthen_0 rfl, s_mo_ldA _ _⟩, (List.forall_mem_cons.mpr ⟨⟨s_ldIn dX11_strengthen_1 rfl, s_mo_ldI _ _⟩, (List.forall_mem_cons.mpr ⟨⟨s_ldIn dX11_strengthen_2 rfl, s_mo_ldI _ _⟩, (List.forall_mem_cons.mpr ⟨⟨s_ldIn dX11_strengthen_3 rfl, s_mo_ldI _ _⟩, (List.forall_mem_cons.mpr ⟨⟨s_sV mk_124 mk_144 ok_144 (by decide +kernel) dX11_strengthen_4 w_1051 w_1053 wp_17 (Or.inr ⟨7, _, _, rfl, rfl⟩), s_h0 mk_124⟩, (List.forall_mem_cons.mpr ⟨⟨s_ldI dX11_strengthen_7, s_mo_ldI _ _⟩, (List.forall_mem_cons.mpr ⟨⟨s_iconst dX11_strengthen_9 (by decide +kernel), s_mo_push _ _⟩, (List.forall_mem_cons.mpr ⟨⟨s_sipush dX11_strengthen_10 (by decide +kernel), s_mo_push _ _⟩, (List.forall_mem_cons.mpr ⟨⟨s_sS mk_124 mk_147 ok_147 (by decide +kernel) dX11_strengthen_13 w_820 w_821, s_h0 mk_124⟩, (List.forall_mem_cons.mpr ⟨⟨s_ldAn dX11_strengthen_16 rfl, s_mo_ldA _ _⟩, (List.forall_mem_cons.mpr ⟨⟨s_getf (ci := 7) (k := 9) rfl (by decide) inX11 w_306 dX11_strengthen_17, s_mo_getf _ _ _⟩, (List.forall_mem_cons.mpr ⟨⟨s_ldAn dX11_strengthen_20 rfl, s_mo_ldA _ _⟩, (List.forall_mem_cons.mpr ⟨⟨s_getf (ci := 7) (k := 0) rfl (by decide) inX11 w_297 dX11_strengthen_21, s_mo_getf _ _ _⟩, (List.forall_mem_cons.mpr ⟨⟨s_ldIn dX11_strengthen_24 rfl, s_mo_ldI _ _⟩, (List.forall_mem_cons.mpr ⟨⟨s_ldIn dX11_strengthen_25 rfl, s_mo_ldI _ _⟩, (List.forall_mem_cons.mpr ⟨⟨s_ldIn dX11_strengthen_26 rfl, s_mo_ldI _ _⟩, (List.forall_mem_cons.mpr ⟨⟨s_sV mk_124 mk_90 ok_90 (by decide +kernel) dX11_strengthen_27 w_1055 w_1056 w_1057 (Or.inr ⟨6, _, _, rfl, rfl⟩), s_h0 mk_124⟩, (List.forall_mem_cons.mpr ⟨⟨s_ldAn dX11_strengthen_30 rfl, s_mo_ldA _ _⟩, (List.forall_mem_cons.mpr ⟨⟨s_getf (ci := 7) (k := 9) rfl (by decide) inX11 w_306 dX11_strengthen_31, s_mo_getf _ _ _⟩, (List.forall_mem_cons.mpr ⟨⟨s_ldAn dX11_strengthen_34 rfl, s_mo_ldA _ _⟩, (List.forall_mem_cons.mpr ⟨⟨s_getf (ci := 7) (k := 0) rfl (by decide) inX11 w_297 dX11_strengthen_35, s_mo_getf _ _ _⟩, (List.forall_mem_cons.mpr ⟨⟨s_ldI dX11_strengthen_38, s_mo_ldI _ _⟩, (List.forall_mem_cons.mpr ⟨⟨s_sV mk_124 mk_99 ok_99 (by decide +kernel) dX11_strengthen_40 w_1068 w_1069 w_1070 (Or.inr ⟨6, _, _, rfl, rfl⟩), s_h0 mk_124⟩, (List.forall_mem_cons.mpr ⟨s_r1 mk_124 dX11_strengthen_43, (fun _ h => absurd h List.not_mem_nil)⟩)⟩)⟩)⟩)⟩)⟩)⟩)⟩)⟩)⟩)⟩)⟩)⟩)⟩)⟩)⟩)⟩)⟩)⟩)⟩)⟩)⟩)⟩)⟩)
theorem km_124 : ∀ t ∈ tm_124, s_tok 124 t := (List.forall_mem_cons.mpr ⟨s_lift mk_124 kb_124_0, (fun _ h => absurd h List.not_mem_nil)⟩)
theorem dX11_spread_0 : decode cX11_spread 0 = .ok (.iload_n 1, 1) := by decide +kernel
theorem dX11_spread_1 : decode cX11_spread 1 = .ok (.ifCond .lt 14, 3) := by decide +kernel
theorem dX11_spread_4 : decode cX11_spread 4 = .ok (.iload_n 1, 1) := by decide +kernel
theorem dX11_spread_5 : decode cX11_spread 5 = .ok (.aload_n 0, 1) := by decide +kernel
theorem dX11_spread_6 : decode cX11_spread 6 = .ok (.getfield 10, 3) := by decide +kernel
theorem dX11_spread_9 : decode cX11_spread 9 = .ok (.getfield 187, 3) := by decide +kernel
theorem dX11_spread_12 : decode cX11_spread 12 = .ok (.if_icmp .le 5, 3) := by decide +kernel
theorem dX11_spread_15 : decode cX11_spread 15 = .ok (.iconst 0, 1) := by decide +kernel
theorem dX11_spread_16 : decode cX11_spread 16 = .ok (.ireturn, 1) := by decide +kernel
theorem dX11_spread_17 : decode cX11_spread 17 = .ok (.aload_n 0, 1) := by decide +kernel
theorem dX11_spread_18 : decode cX11_spread 18 = .ok (.getfield 10, 3) := by decide +kernel
theorem dX11_spread_21 : decode cX11_spread 21 = .ok (.aload_n 0, 1) := by decide +kernel
theorem dX11_spread_22 : decode cX11_spread 22 = .ok (.getfield 70, 3) := by decide +kernel
theorem dX11_spread_25 : decode cX11_spread 25 = .ok (.invokestatic 249, 3) := by decide +kernel
theorem dX11_spread_28 : decode cX11_spread 28 = .ok (.aload_n 0, 1) := by decide +kernel
theorem dX11_spread_29 : decode cX11_spread 29 = .ok (.getfield 70, 3) := by decide +kernel
theorem dX11_spread_32 : decode cX11_spread 32 = .ok (.iload_n 1, 1) := by decide +kernel
theorem dX11_spread_33 : decode cX11_spread 33 = .ok (.laload, 1) := by decide +kernel
theorem dX11_spread_34 : decode cX11_spread 34 = .ok (.l2i, 1) := by decide +kernel
theorem dX11_spread_35 : decode cX11_spread 35 = .ok (.ireturn, 1) := by decide +kernel
set_option maxRecDepth 20000 in
theorem kb_125_0 : ∀ q ∈ tb_125_0, s_atx 125 yX11_spread cX11_spread q.1 q.2 := (List.forall_mem_cons.mpr ⟨⟨s_ldIn dX11_spread_0 rfl, s_mo_ldI _ _⟩, (List.forall_mem_cons.mpr ⟨⟨s_iflt dX11_spread_1 (by decide), s_mo_iflt _ _⟩, (List.forall_mem_cons.mpr ⟨⟨s_ldIn dX11_spread_4 rfl, s_mo_ldI _ _⟩, (List.forall_mem_cons.mpr ⟨⟨s_ldAn dX11_spread_5 rfl, s_mo_ldA _ _⟩, (List.forall_mem_cons.mpr ⟨⟨s_getf (ci := 7) (k := 0) rfl (by decide) inX11 w_297 dX11_spread_6, s_mo_getf _ _ _⟩, (List.forall_mem_cons.mpr ⟨⟨s_getf (ci := 0) (k := 2) rfl (by decide) inX0 w_63 dX11_spread_9, s_mo_getf _ _ _⟩, (List.forall_mem_cons.mpr ⟨⟨s_icle dX11_spread_12 (by decide), s_mo_icle _ _⟩, (List.forall_mem_cons.mpr ⟨⟨s_iconst dX11_spread_15 (by decide +kernel), s_mo_push _ _⟩, (List.forall_mem_cons.mpr ⟨s_r1 mk_125 dX11_spread_16, (List.forall_mem_cons.mpr ⟨⟨s_ldAn dX11_spread_17 rfl, s_mo_ldA _ _⟩, (List.forall_mem_cons.mpr ⟨⟨s_getf (ci := 7) (k := 0) rfl (by decide) inX11 w_297 dX11_spread_18, s_mo_getf _ _ _⟩, (List.forall_mem_cons.mpr ⟨⟨s_ldAn dX11_spread_21 rfl, s_mo_ldA _ _⟩, (List.forall_mem_cons.mpr ⟨⟨s_getf (ci := 7) (k := 11) rfl (by decide) inX11 w_308 dX11_spread_22, s_mo_getf _ _ _⟩, (List.forall_mem_cons.mpr ⟨⟨s_sS mk_125 mk_35 ok_35 (by decide +kernel) dX11_spread_25 w_365 w_366, s_h0 mk_125⟩, (List.forall_mem_cons.mpr ⟨⟨s_ldAn dX11_spread_28 rfl, s_mo_ldA _ _⟩, (List.forall_mem_cons.mpr ⟨⟨s_getf (ci := 7) (k := 11) rfl (by decide) inX11 w_308 dX11_spread_29, s_mo_getf _ _ _⟩, (List.forall_mem_cons.mpr ⟨⟨s_ldIn dX11_spread_32 rfl, s_mo_ldI _ _⟩, (List.forall_mem_cons.mpr ⟨⟨s_lald dX11_spread_33, s_mo_lald _⟩, (List.forall_mem_cons.mpr ⟨⟨s_l2i dX11_spread_34, s_mo_l2i _⟩, (List.forall_mem_cons.mpr ⟨s_r1 mk_125 dX11_spread_35, (fun _ h => absurd h List.not_mem_nil)⟩)⟩)⟩)⟩)⟩)⟩)⟩)⟩)⟩)⟩)⟩)⟩)⟩)⟩)⟩)⟩)⟩)⟩)⟩)⟩)
theorem km_125 : ∀ t ∈ tm_125, s_tok 125 t := (List.forall_mem_cons.mpr ⟨s_lift mk_125 kb_125_0, (fun _ h => absurd h List.not_mem_nil)⟩)
theorem dX11_blow_0 : decode cX11_blow 0 = .ok (.aload_n 0, 1) := by decide +kernel
theorem dX11_blow_1 : decode cX11_blow 1 = .ok (.iload_n 1, 1) := by decide +kernel
theorem dX11_blow_2 : decode cX11_blow 2 = .ok (.invokevirtual 128, 3) := by decide +kernel
theorem dX11_blow_5 : decode cX11_blow 5 = .ok (.iload_n 2, 1) := by decide +kernel
theorem dX11_blow_6 : decode cX11_blow 6 = .ok (.iconst 1, 1) := by decide +kernel
theorem dX11_blow_7 : decode cX11_blow 7 = .ok (.sipush 999, 3) := by decide +kernel
theorem dX11_blow_10 : decode cX11_blow 10 = .ok (.invokestatic 166, 3) := by decide +kernel
theorem dX11_blow_13 : decode cX11_blow 13 = .ok (.aload_n 0, 1) := by decide +kernel
theorem dX11_blow_14 : decode cX11_blow 14 = .ok (.getfield 45, 3) := by decide +kernel
theorem dX11_blow_17 : decode cX11_blow 17 = .ok (.aload_n 0, 1) := by decide +kernel
theorem dX11_blow_18 : decode cX11_blow 18 = .ok (.getfield 10, 3) := by decide +kernel
theorem dX11_blow_21 : decode cX11_blow 21 = .ok (.invokevirtual 170, 3) := by decide +kernel
theorem dX11_blow_24 : decode cX11_blow 24 = .ok (.aload_n 0, 1) := by decide +kernel
theorem dX11_blow_25 : decode cX11_blow 25 = .ok (.getfield 52, 3) := by decide +kernel
theorem dX11_blow_28 : decode cX11_blow 28 = .ok (.aload_n 0, 1) := by decide +kernel
theorem dX11_blow_29 : decode cX11_blow 29 = .ok (.getfield 10, 3) := by decide +kernel
theorem dX11_blow_32 : decode cX11_blow 32 = .ok (.iload_n 1, 1) := by decide +kernel
theorem dX11_blow_33 : decode cX11_blow 33 = .ok (.iload_n 2, 1) := by decide +kernel
theorem dX11_blow_34 : decode cX11_blow 34 = .ok (.invokevirtual 255, 3) := by decide +kernel
theorem dX11_blow_37 : decode cX11_blow 37 = .ok (.istore_n 3, 1) := by decide +kernel
theorem dX11_blow_38 : decode cX11_blow 38 = .ok (.iconst 0, 1) := by decide +kernel
theorem dX11_blow_39 : decode cX11_blow 39 = .ok (.istore 4, 2) := by decide +kernel
theorem dX11_blow_41 : decode cX11_blow 41 = .ok (.iload 4, 2) := by decide +kernel
theorem dX11_blow_43 : decode cX11_blow 43 = .ok (.aload_n 0, 1) := by decide +kernel
theorem dX11_blow_44 : decode cX11_blow 44 = .ok (.getfield 10, 3) := by decide +kernel
theorem dX11_blow_47 : decode cX11_blow 47 = .ok (.getfield 187, 3) := by decide +kernel
theorem dX11_blow_50 : decode cX11_blow 50 = .ok (.if_icmp .ge 28, 3) := by decide +kernel
theorem dX11_blow_53 : decode cX11_blow 53 = .ok (.aload_n 0, 1) := by decide +kernel
theorem dX11_blow_54 : decode cX11_blow 54 = .ok (.getfield 10, 3) := by decide +kernel
theorem dX11_blow_57 : decode cX11_blow 57 = .ok (.getfield 141, 3) := by decide +kernel
theorem dX11_blow_60 : decode cX11_blow 60 = .ok (.iload 4, 2) := by decide +kernel
theorem dX11_blow_62 : decode cX11_blow 62 = .ok (.dup2, 1) := by decide +kernel
theorem dX11_blow_63 : decode cX11_blow 63 = .ok (.iaload, 1) := by decide +kernel
theorem dX11_blow_64 : decode cX11_blow 64 = .ok (.iload_n 3, 1) := by decide +kernel
theorem dX11_blow_65 : decode cX11_blow 65 = .ok (.iload 4, 2) := by decide +kernel
theorem dX11_blow_67 : decode cX11_blow 67 = .ok (.ishr, 1) := by decide +kernel
theorem dX11_blow_68 : decode cX11_blow 68 = .ok (.iconst 1, 1) := by decide +kernel
theorem dX11_blow_69 : decode cX11_blow 69 = .ok (.iand, 1) := by decide +kernel
theorem dX11_blow_70 : decode cX11_blow 70 = .ok (.iadd, 1) := by decide +kernel
theorem dX11_blow_71 : decode cX11_blow 71 = .ok (.iastore, 1) := by decide +kernel
theorem dX11_blow_72 : decode cX11_blow 72 = .ok (.iinc 4 1, 3) := by decide +kernel
theorem dX11_blow_75 : decode cX11_blow 75 = .ok (.goto (-34), 3) := by decide +kernel
theorem dX11_blow_78 : decode cX11_blow 78 = .ok (.iload_n 3, 1) := by decide +kernel
theorem dX11_blow_79 : decode cX11_blow 79 = .ok (.invokestatic 258, 3) := by decide +kernel
theorem dX11_blow_82 : decode cX11_blow 82 = .ok (.ireturn, 1) := by decide +kernel
set_option maxRecDepth 20000 in
theorem kb_126_0 : ∀ q ∈ tb_126_0, s_atx 126 yX11_blow cX11_blow q.1 q.2 := (List.forall_mem_cons.mpr ⟨⟨s_ldAn dX11_blow_0 rfl, s_mo_ldA _ _⟩, (List.forall_mem_cons.mpr ⟨⟨s_ldIn dX11_blow_1 rfl, s_mo_ldI _ _⟩, (List.forall_mem_cons.mpr ⟨⟨s_sV mk_126 mk_142 ok_142 (by decide +kernel) dX11_blow_2 w_762 w_764 wp_9 (Or.inr ⟨7, _, _, rfl, rfl⟩), s_h0 mk_126⟩, (List.forall_mem_cons.mpr ⟨⟨s_ldIn dX11_blow_5 rfl, s_mo_ldI _ _⟩, (List.forall_mem_cons.mpr ⟨⟨s_iconst dX11_blow_6 (by decide +kernel), s_mo_push _ _⟩, (List.forall_mem_cons.mpr ⟨⟨s_sipush dX11_blow_7 (by decide +kernel), s_mo_push _ _⟩, (List.forall_mem_cons.mpr ⟨⟨s_sS mk_126 mk_147 ok_147 (by decide +kernel) dX11_blow_10 w_820 w_821, s_h0 mk_126⟩, (List.forall_mem_cons.mpr ⟨⟨s_ldAn dX11_blow_13 rfl, s_mo_ldA _ _⟩, (List.forall_mem_cons.mpr ⟨⟨s_getf (ci := 7) (k := 7) rfl (by decide) inX11 w_304 dX11_blow_14, s_mo_getf _ _ _⟩, (List.forall_mem_cons.mpr ⟨⟨s_ldAn dX11_blow_17 rfl, s_mo_ldA _ _⟩, (List.forall_mem_cons.mpr ⟨⟨s_getf (ci := 7) (k := 0) rfl (by decide) inX11 w_297 dX11_blow_18, s_mo_getf _ _ _⟩, (List.forall_mem_cons.mpr ⟨⟨s_sV mk_126 mk_73 ok_73 (by decide +kernel) dX11_blow_21 w_431 w_432 w_433 (Or.inr ⟨4, _, _, rfl, rfl⟩), s_h0 mk_126⟩, (List.forall_mem_cons.mpr ⟨⟨s_ldAn dX11_blow_24 rfl, s_mo_ldA _ _⟩, (List.forall_mem_cons.mpr ⟨⟨s_getf (ci := 7) (k := 8) rfl (by decide) inX11 w_305 dX11_blow_25, s_mo_getf _ _ _⟩, (List.forall_mem_cons.mpr ⟨⟨s_ldAn dX11_blow_28 rfl, s_mo_ldA _ _⟩, (List.forall_mem_cons.mpr ⟨⟨s_getf (ci := 7) (k := 0) rfl (by decide) inX11 w_297 dX11_blow_29, s_mo_getf _ _ _⟩, (List.forall_mem_cons.mpr ⟨⟨s_ldIn dX11_blow_32 rfl, s_mo_ldI _ _⟩, (List.forall_mem_cons.mpr ⟨⟨s_ldIn dX11_blow_33 rfl, s_mo_ldI _ _⟩, (List.forall_mem_cons.mpr ⟨⟨s_sV mk_126 mk_24 ok_24 (by decide +kernel) dX11_blow_34 w_1095 w_1096 w_1097 (Or.inr ⟨1, _, _, rfl, rfl⟩), s_h0 mk_126⟩, (List.forall_mem_cons.mpr ⟨⟨s_stIn dX11_blow_37 rfl, s_mo_stI _ _⟩, (List.forall_mem_cons.mpr ⟨⟨s_iconst dX11_blow_38 (by decide +kernel), s_mo_push _ _⟩, (List.forall_mem_cons.mpr ⟨⟨s_stI dX11_blow_39, s_mo_stI _ _⟩, (List.forall_mem_cons.mpr ⟨⟨s_ldI dX11_blow_41, s_mo_ldI _ _⟩, (List.forall_mem_cons.mpr ⟨⟨s_ldAn dX11_blow_43 rfl, s_mo_ldA _ _⟩, (List.forall_mem_cons.mpr ⟨⟨s_getf (ci := 7) (k := 0) rfl (by decide) inX11 w_297 dX11_blow_44, s_mo_getf _ _ _⟩, (List.forall_mem_cons.mpr ⟨⟨s_getf (ci := 0) (k := 2) rfl (by decide) inX0 w_63 dX11_blow_47, s_mo_getf _ _ _⟩, (List.forall_mem_cons.mpr ⟨⟨s_icge dX11_blow_50 (by decide), s_mo_icge _ _⟩, (List.forall_mem_cons.mpr ⟨⟨s_ldAn dX11_blow_53 rfl, s_mo_ldA _ _⟩, (List.forall_mem_cons.mpr ⟨⟨s_getf (ci := 7) (k := 0) rfl (by decide) inX11 w_297 dX11_blow_54, s_mo_getf _ _ _⟩, (List.forall_mem_cons.mpr ⟨⟨s_getf (ci := 0) (k := 9) rfl (by decide) inX0 w_94 dX11_blow_57, s_mo_getf _ _ _⟩, (List.forall_mem_cons.mpr ⟨⟨s_ldI dX11_blow_60, s_mo_ldI _ _⟩, (List.forall_mem_cons.mpr ⟨⟨s_dup2 dX11_blow_62, s_mo_dup2 _⟩, (List.forall_mem_cons.mpr ⟨⟨s_iald dX11_blow_63, s_mo_iald _⟩, (fun _ h => absurd h List.not_mem_nil)⟩)⟩)⟩)⟩)⟩)⟩)⟩)⟩)⟩)⟩)⟩)⟩)⟩)⟩)⟩)⟩)⟩)⟩)⟩)⟩)⟩)⟩)⟩)⟩)⟩)⟩)⟩)⟩)⟩)⟩)⟩)⟩)⟩)
set_option maxRecDepth 20000 in
theorem kb_126_1 : ∀ q ∈ tb_126_1, s_atx 126 yX11_blow cX11_blow q.1 q.2 := (List.forall_mem_cons.mpr ⟨⟨s_ldIn dX11_blow_64 rfl, s_mo_ldI _ _⟩, (List.forall_mem_cons.mpr ⟨⟨s_ldI dX11_blow_65, s_mo_ldI _ _⟩, (List.forall_mem_cons.mpr ⟨⟨s_ishr dX11_blow_67, s_mo_bin _ _⟩, (List.forall_mem_cons.mpr ⟨⟨s_iconst dX11_blow_68 (by decide +kernel), s_mo_push _ _⟩, (List.forall_mem_cons.mpr ⟨⟨s_iand dX11_blow_69, s_mo_bin _ _⟩, (List.forall_mem_cons.mpr ⟨⟨s_iadd dX11_blow_70, s_mo_bin _ _⟩, (List.forall_mem_cons.mpr ⟨⟨s_iast dX11_blow_71, s_mo_iast _⟩, (List.forall_mem_cons.mpr ⟨⟨s_inc dX11_blow_72 (by decide +kernel), s_mo_inc _ _ _⟩, (List.forall_mem_cons.mpr ⟨⟨s_goto dX11_blow_75 (by decide), s_mo_goto _⟩, (List.forall_mem_cons.mpr ⟨⟨s_ldIn dX11_blow_78 rfl, s_mo_ldI _ _⟩, (List.forall_mem_cons.mpr ⟨⟨s_sS mk_126 mk_254 ok_254 (by decide +kernel) dX11_blow_79 w_486 w_422, s_h0 mk_126⟩, (List.forall_mem_cons.mpr ⟨s_r1 mk_126 dX11_blow_82, (fun _ h => absurd h List.not_mem_nil)⟩)⟩)⟩)⟩)⟩)⟩)⟩)⟩)⟩)⟩)⟩)⟩)
theorem km_126 : ∀ t ∈ tm_126, s_tok 126 t := (List.forall_mem_cons.mpr ⟨s_lift mk_126 kb_126_0, (List.forall_mem_cons.mpr ⟨s_lift mk_126 kb_126_1, (fun _ h => absurd h List.not_mem_nil)⟩)⟩)
theorem dX11_would_0 : decode cX11_would 0 = .ok (.aload_n 0, 1) := by decide +kernel
theorem dX11_would_1 : decode cX11_would 1 = .ok (.iload_n 1, 1) := by decide +kernel
theorem dX11_would_2 : decode cX11_would 2 = .ok (.invokevirtual 128, 3) := by decide +kernel
theorem dX11_would_5 : decode cX11_would 5 = .ok (.iload_n 2, 1) := by decide +kernel
theorem dX11_would_6 : decode cX11_would 6 = .ok (.iconst 1, 1) := by decide +kernel
theorem dX11_would_7 : decode cX11_would 7 = .ok (.sipush 999, 3) := by decide +kernel
theorem dX11_would_10 : decode cX11_would 10 = .ok (.invokestatic 166, 3) := by decide +kernel
theorem dX11_would_13 : decode cX11_would 13 = .ok (.aload_n 0, 1) := by decide +kernel
theorem dX11_would_14 : decode cX11_would 14 = .ok (.getfield 52, 3) := by decide +kernel
theorem dX11_would_17 : decode cX11_would 17 = .ok (.aload_n 0, 1) := by decide +kernel
theorem dX11_would_18 : decode cX11_would 18 = .ok (.getfield 10, 3) := by decide +kernel
theorem dX11_would_21 : decode cX11_would 21 = .ok (.iload_n 1, 1) := by decide +kernel
theorem dX11_would_22 : decode cX11_would 22 = .ok (.iload_n 2, 1) := by decide +kernel
theorem dX11_would_23 : decode cX11_would 23 = .ok (.invokevirtual 255, 3) := by decide +kernel
theorem dX11_would_26 : decode cX11_would 26 = .ok (.ireturn, 1) := by decide +kernel
set_option maxRecDepth 20000 in
theorem kb_127_0 : ∀ q ∈ tb_127_0, s_atx 127 yX11_would cX11_would q.1 q.2 := (List.forall_mem_cons.mpr ⟨⟨s_ldAn dX11_would_0 rfl, s_mo_ldA _ _⟩, (List.forall_mem_cons.mpr ⟨⟨s_ldIn dX11_would_1 rfl, s_mo_ldI _ _⟩, (List.forall_mem_cons.mpr ⟨⟨s_sV mk_127 mk_142 ok_142 (by decide +kernel) dX11_would_2 w_762 w_764 wp_9 (Or.inr ⟨7, _, _, rfl, rfl⟩), s_h0 mk_127⟩, (List.forall_mem_cons.mpr ⟨⟨s_ldIn dX11_would_5 rfl, s_mo_ldI _ _⟩, (List.forall_mem_cons.mpr ⟨⟨s_iconst dX11_would_6 (by decide +kernel), s_mo_push _ _⟩, (List.forall_mem_cons.mpr ⟨⟨s_sipush dX11_would_7 (by decide +kernel), s_mo_push _ _⟩, (List.forall_mem_cons.mpr ⟨⟨s_sS mk_127 mk_147 ok_147 (by decide +kernel) dX11_would_10 w_820 w_821, s_h0 mk_127⟩, (List.forall_mem_cons.mpr ⟨⟨s_ldAn dX11_would_13 rfl, s_mo_ldA _ _⟩, (List.forall_mem_cons.mpr ⟨⟨s_getf (ci := 7) (k := 8) rfl (by decide) inX11 w_305 dX11_would_14, s_mo_getf _ _ _⟩, (List.forall_mem_cons.mpr ⟨⟨s_ldAn dX11_would_17 rfl, s_mo_ldA _ _⟩, (List.forall_mem_cons.mpr ⟨⟨s_getf (ci := 7) (k := 0) rfl (by decide) inX11 w_297 dX11_would_18, s_mo_getf _ _ _⟩, (List.forall_mem_cons.mpr ⟨⟨s_ldIn dX11_would_21 rfl, s_mo_ldI _ _⟩, (List.forall_mem_cons.mpr ⟨⟨s_ldIn dX11_would_22 rfl, s_mo_ldI _ _⟩, (List.forall_mem_cons.mpr ⟨⟨s_sV mk_127 mk_24 ok_24 (by decide +kernel) dX11_would_23 w_1095 w_1096 w_1097 (Or.inr ⟨1, _, _, rfl, rfl⟩), s_h0 mk_127⟩, (List.forall_mem_cons.mpr ⟨s_r1 mk_127 dX11_would_26, (fun _ h => absurd h List.not_mem_nil)⟩)⟩)⟩)⟩)⟩)⟩)⟩)⟩)⟩)⟩)⟩)⟩)⟩)⟩)⟩)
theorem km_127 : ∀ t ∈ tm_127, s_tok 127 t := (List.forall_mem_cons.mpr ⟨s_lift mk_127 kb_127_0, (fun _ h => absurd h List.not_mem_nil)⟩)
theorem dX11_trace_0 : decode cX11_trace 0 = .ok (.iload_n 2, 1) := by decide +kernel
theorem dX11_trace_1 : decode cX11_trace 1 = .ok (.iconst 1, 1) := by decide +kernel
theorem dX11_trace_2 : decode cX11_trace 2 = .ok (.sipush 300, 3) := by decide +kernel
theorem dX11_trace_5 : decode cX11_trace 5 = .ok (.invokestatic 166, 3) := by decide +kernel
theorem dX11_trace_8 : decode cX11_trace 8 = .ok (.iload_n 1, 1) := by decide +kernel
theorem dX11_trace_9 : decode cX11_trace 9 = .ok (.aload_n 0, 1) := by decide +kernel
theorem dX11_trace_10 : decode cX11_trace 10 = .ok (.getfield 10, 3) := by decide +kernel
theorem dX11_trace_13 : decode cX11_trace 13 = .ok (.getfield 263, 3) := by decide +kernel
theorem dX11_trace_16 : decode cX11_trace 16 = .ok (.iand, 1) := by decide +kernel
theorem dX11_trace_17 : decode cX11_trace 17 = .ok (.istore 4, 2) := by decide +kernel
theorem dX11_trace_19 : decode cX11_trace 19 = .ok (.iload_n 3, 1) := by decide +kernel
theorem dX11_trace_20 : decode cX11_trace 20 = .ok (.ifCond .eq 20, 3) := by decide +kernel
theorem dX11_trace_23 : decode cX11_trace 23 = .ok (.aload_n 0, 1) := by decide +kernel
theorem dX11_trace_24 : decode cX11_trace 24 = .ok (.getfield 52, 3) := by decide +kernel
theorem dX11_trace_27 : decode cX11_trace 27 = .ok (.aload_n 0, 1) := by decide +kernel
theorem dX11_trace_28 : decode cX11_trace 28 = .ok (.getfield 10, 3) := by decide +kernel
theorem dX11_trace_31 : decode cX11_trace 31 = .ok (.iload 4, 2) := by decide +kernel
theorem dX11_trace_33 : decode cX11_trace 33 = .ok (.iload_n 2, 1) := by decide +kernel
theorem dX11_trace_34 : decode cX11_trace 34 = .ok (.invokevirtual 266, 3) := by decide +kernel
theorem dX11_trace_37 : decode cX11_trace 37 = .ok (.goto 17, 3) := by decide +kernel
theorem dX11_trace_40 : decode cX11_trace 40 = .ok (.aload_n 0, 1) := by decide +kernel
theorem dX11_trace_41 : decode cX11_trace 41 = .ok (.getfield 52, 3) := by decide +kernel
theorem dX11_trace_44 : decode cX11_trace 44 = .ok (.aload_n 0, 1) := by decide +kernel
theorem dX11_trace_45 : decode cX11_trace 45 = .ok (.getfield 10, 3) := by decide +kernel
theorem dX11_trace_48 : decode cX11_trace 48 = .ok (.iload 4, 2) := by decide +kernel
theorem dX11_trace_50 : decode cX11_trace 50 = .ok (.iload_n 2, 1) := by decide +kernel
theorem dX11_trace_51 : decode cX11_trace 51 = .ok (.invokevirtual 269, 3) := by decide +kernel
theorem dX11_trace_54 : decode cX11_trace 54 = .ok (.ireturn, 1) := by decide +kernel
set_option maxRecDepth 20000 in
theorem kb_128_0 : ∀ q ∈ tb_128_0, s_atx 128 yX11_trace cX11_trace q.1 q.2 := (List.forall_mem_cons.mpr ⟨⟨s_ldIn dX11_trace_0 rfl, s_mo_ldI _ _⟩, (List.forall_mem_cons.mpr ⟨⟨s_iconst dX11_trace_1 (by decide +kernel), s_mo_push _ _⟩, (List.forall_mem_cons.mpr ⟨⟨s_sipush dX11_trace_2 (by decide +kernel), s_mo_push _ _⟩, (List.forall_mem_cons.mpr ⟨⟨s_sS mk_128 mk_147 ok_147 (by decide +kernel) dX11_trace_5 w_820 w_821, s_h0 mk_128⟩, (List.forall_mem_cons.mpr ⟨⟨s_ldIn dX11_trace_8 rfl, s_mo_ldI _ _⟩, (List.forall_mem_cons.mpr ⟨⟨s_ldAn dX11_trace_9 rfl, s_mo_ldA _ _⟩, (List.forall_mem_cons.mpr ⟨⟨s_getf (ci := 7) (k := 0) rfl (by decide) inX11 w_297 dX11_trace_10, s_mo_getf _ _ _⟩, (List.forall_mem_cons.mpr ⟨⟨s_getf (ci := 0) (k := 3) rfl (by decide) inX0 w_68 dX11_trace_13, s_mo_getf _ _ _⟩, (List.forall_mem_cons.mpr ⟨⟨s_iand dX11_trace_16, s_mo_bin _ _⟩, (List.forall_mem_cons.mpr ⟨⟨s_stI dX11_trace_17, s_mo_stI _ _⟩, (List.forall_mem_cons.mpr ⟨⟨s_ldIn dX11_trace_19 rfl, s_mo_ldI _ _⟩, (List.forall_mem_cons.mpr ⟨⟨s_ifeq dX11_trace_20 (by decide), s_mo_ifeq _ _⟩, (List.forall_mem_cons.mpr ⟨⟨s_ldAn dX11_trace_23 rfl, s_mo_ldA _ _⟩, (List.forall_mem_cons.mpr ⟨⟨s_getf (ci := 7) (k := 8) rfl (by decide) inX11 w_305 dX11_trace_24, s_mo_getf _ _ _⟩, (List.forall_mem_cons.mpr ⟨⟨s_ldAn dX11_trace_27 rfl, s_mo_ldA _ _⟩, (List.forall_mem_cons.mpr ⟨⟨s_getf (ci := 7) (k := 0) rfl (by decide) inX11 w_297 dX11_trace_28, s_mo_getf _ _ _⟩, (List.forall_mem_cons.mpr ⟨⟨s_ldI dX11_trace_31, s_mo_ldI _ _⟩, (List.forall_mem_cons.mpr ⟨⟨s_ldIn dX11_trace_33 rfl, s_mo_ldI _ _⟩, (List.forall_mem_cons.mpr ⟨⟨s_sV mk_128 mk_27 ok_27 (by decide +kernel) dX11_trace_34 w_1122 w_1123 w_1124 (Or.inr ⟨1, _, _, rfl, rfl⟩), s_h0 mk_128⟩, (List.forall_mem_cons.mpr ⟨⟨s_goto dX11_trace_37 (by decide), s_mo_goto _⟩, (List.forall_mem_cons.mpr ⟨⟨s_ldAn dX11_trace_40 rfl, s_mo_ldA _ _⟩, (List.forall_mem_cons.mpr ⟨⟨s_getf (ci := 7) (k := 8) rfl (by decide) inX11 w_305 dX11_trace_41, s_mo_getf _ _ _⟩, (List.forall_mem_cons.mpr ⟨⟨s_ldAn dX11_trace_44 rfl, s_mo_ldA _ _⟩, (List.forall_mem_cons.mpr ⟨⟨s_getf (ci := 7) (k := 0) rfl (by decide) inX11 w_297 dX11_trace_45, s_mo_getf _ _ _⟩, (List.forall_mem_cons.mpr ⟨⟨s_ldI dX11_trace_48, s_mo_ldI _ _⟩, (List.forall_mem_cons.mpr ⟨⟨s_ldIn dX11_trace_50 rfl, s_mo_ldI _ _⟩, (List.forall_mem_cons.mpr ⟨⟨s_sV mk_128 mk_26 ok_26 (by decide +kernel) dX11_trace_51 w_1131 w_1132 w_1133 (Or.inr ⟨1, _, _, rfl, rfl⟩), s_h0 mk_128⟩, (List.forall_mem_cons.mpr ⟨s_r1 mk_128 dX11_trace_54, (fun _ h => absurd h List.not_mem_nil)⟩)⟩)⟩)⟩)⟩)⟩)⟩)⟩)⟩)⟩)⟩)⟩)⟩)⟩)⟩)⟩)⟩)⟩)⟩)⟩)⟩)⟩)⟩)⟩)⟩)⟩)⟩)⟩)
theorem km_128 : ∀ t ∈ tm_128, s_tok 128 t := (List.forall_mem_cons.mpr ⟨s_lift mk_128 kb_128_0, (fun _ h => absurd h List.not_mem_nil)⟩)
theorem dX11_parade_0 : decode cX11_parade 0 = .ok (.aload_n 0, 1) := by decide +kernel
theorem dX11_parade_1 : decode cX11_parade 1 = .ok (.iload_n 1, 1) := by decide +kernel
theorem dX11_parade_2 : decode cX11_parade 2 = .ok (.iload_n 2, 1) := by decide +kernel
theorem dX11_parade_3 : decode cX11_parade 3 = .ok (.iload_n 3, 1) := by decide +kernel
theorem dX11_parade_4 : decode cX11_parade 4 = .ok (.invokevirtual 238, 3) := by decide +kernel
theorem dX11_parade_7 : decode cX11_parade 7 = .ok (.iload 4, 2) := by decide +kernel
theorem dX11_parade_9 : decode cX11_parade 9 = .ok (.iconst 0, 1) := by decide +kernel
theorem dX11_parade_10 : decode cX11_parade 10 = .ok (.sipush 999, 3) := by decide +kernel
theorem dX11_parade_13 : decode cX11_parade 13 = .ok (.invokestatic 166, 3) := by decide +kernel
theorem dX11_parade_16 : decode cX11_parade 16 = .ok (.iload 5, 2) := by decide +kernel
theorem dX11_parade_18 : decode cX11_parade 18 = .ok (.iconst (-1), 1) := by decide +kernel
theorem dX11_parade_19 : decode cX11_parade 19 = .ok (.if_icmp .ge 11, 3) := by decide +kernel
theorem dX11_parade_22 : decode cX11_parade 22 = .ok (.new 110, 3) := by decide +kernel
theorem dX11_parade_25 : decode cX11_parade 25 = .ok (.dup, 1) := by decide +kernel
theorem dX11_parade_26 : decode cX11_parade 26 = .ok (.invokespecial 112, 3) := by decide +kernel
theorem dX11_parade_29 : decode cX11_parade 29 = .ok (.athrow, 1) := by decide +kernel
theorem dX11_parade_30 : decode cX11_parade 30 = .ok (.aload_n 0, 1) := by decide +kernel
theorem dX11_parade_31 : decode cX11_parade 31 = .ok (.getfield 59, 3) := by decide +kernel
theorem dX11_parade_34 : decode cX11_parade 34 = .ok (.aload_n 0, 1) := by decide +kernel
theorem dX11_parade_35 : decode cX11_parade 35 = .ok (.getfield 10, 3) := by decide +kernel
theorem dX11_parade_38 : decode cX11_parade 38 = .ok (.iload_n 1, 1) := by decide +kernel
theorem dX11_parade_39 : decode cX11_parade 39 = .ok (.iload_n 2, 1) := by decide +kernel
theorem dX11_parade_40 : decode cX11_parade 40 = .ok (.iload_n 3, 1) := by decide +kernel
theorem dX11_parade_41 : decode cX11_parade 41 = .ok (.invokevirtual 241, 3) := by decide +kernel
theorem dX11_parade_44 : decode cX11_parade 44 = .ok (.aload_n 0, 1) := by decide +kernel
theorem dX11_parade_45 : decode cX11_parade 45 = .ok (.getfield 59, 3) := by decide +kernel
theorem dX11_parade_48 : decode cX11_parade 48 = .ok (.aload_n 0, 1) := by decide +kernel
theorem dX11_parade_49 : decode cX11_parade 49 = .ok (.getfield 10, 3) := by decide +kernel
theorem dX11_parade_52 : decode cX11_parade 52 = .ok (.iload 4, 2) := by decide +kernel
theorem dX11_parade_54 : decode cX11_parade 54 = .ok (.invokevirtual 272, 3) := by decide +kernel
theorem dX11_parade_57 : decode cX11_parade 57 = .ok (.istore 6, 2) := by decide +kernel
theorem dX11_parade_59 : decode cX11_parade 59 = .ok (.iload 5, 2) := by decide +kernel
theorem dX11_parade_61 : decode cX11_parade 61 = .ok (.iconst (-1), 1) := by decide +kernel
theorem dX11_parade_62 : decode cX11_parade 62 = .ok (.if_icmp .eq 9, 3) := by decide +kernel
theorem dX11_parade_65 : decode cX11_parade 65 = .ok (.iload 6, 2) := by decide +kernel
theorem dX11_parade_67 : decode cX11_parade 67 = .ok (.iconst (-1), 1) := by decide +kernel
theorem dX11_parade_68 : decode cX11_parade 68 = .ok (.if_icmp .ne 6, 3) := by decide +kernel
theorem dX11_parade_71 : decode cX11_parade 71 = .ok (.iload 6, 2) := by decide +kernel
theorem dX11_parade_73 : decode cX11_parade 73 = .ok (.ireturn, 1) := by decide +kernel
theorem dX11_parade_74 : decode cX11_parade 74 = .ok (.iload 5, 2) := by decide +kernel
theorem dX11_parade_76 : decode cX11_parade 76 = .ok (.iload 6, 2) := by decide +kernel
theorem dX11_parade_78 : decode cX11_parade 78 = .ok (.if_icmp .le 7, 3) := by decide +kernel
theorem dX11_parade_81 : decode cX11_parade 81 = .ok (.iconst (-1), 1) := by decide +kernel
theorem dX11_parade_82 : decode cX11_parade 82 = .ok (.goto 18, 3) := by decide +kernel
theorem dX11_parade_85 : decode cX11_parade 85 = .ok (.aload_n 0, 1) := by decide +kernel
theorem dX11_parade_86 : decode cX11_parade 86 = .ok (.getfield 59, 3) := by decide +kernel
theorem dX11_parade_89 : decode cX11_parade 89 = .ok (.aload_n 0, 1) := by decide +kernel
theorem dX11_parade_90 : decode cX11_parade 90 = .ok (.getfield 10, 3) := by decide +kernel
theorem dX11_parade_93 : decode cX11_parade 93 = .ok (.iload 5, 2) := by decide +kernel
theorem dX11_parade_95 : decode cX11_parade 95 = .ok (.iload 6, 2) := by decide +kernel
theorem dX11_parade_97 : decode cX11_parade 97 = .ok (.invokevirtual 275, 3) := by decide +kernel
theorem dX11_parade_100 : decode cX11_parade 100 = .ok (.ireturn, 1) := by decide +kernel
set_option maxRecDepth 20000 in
theorem kb_129_0 : ∀ q ∈ tb_129_0, s_atx 129 yX11_parade cX11_parade q.1 q.2 := (List.forall_mem_cons.mpr ⟨⟨s_ldAn dX11_parade_0 rfl, s_mo_ldA _ _⟩, (List.forall_mem_cons.mpr ⟨⟨s_ldIn dX11_parade_1 rfl, s_mo_ldI _ _⟩, (List.forall_mem_cons.mpr ⟨⟨s_ldIn dX11_parade_2 rfl, s_mo_ldI _ _⟩, (List.forall_mem_cons.mpr ⟨⟨s_ldIn dX11_parade_3 rfl, s_mo_ldI _ _⟩, (List.forall_mem_cons.mpr ⟨⟨s_sV mk_129 mk_144 ok_144 (by decide +kernel) dX11_parade_4 w_1051 w_1053 wp_17 (Or.inr ⟨7, _, _, rfl, rfl⟩), s_h0 mk_129⟩, (List.forall_mem_cons.mpr ⟨⟨s_ldI dX11_parade_7, s_mo_ldI _ _⟩, (List.forall_mem_cons.mpr ⟨⟨s_iconst dX11_parade_9 (by decide +kernel), s_mo_push _ _⟩, (List.forall_mem_cons.mpr ⟨⟨s_sipush dX11_parade_10 (by decide +kernel), s_mo_push _ _⟩, (List.forall_mem_cons.mpr ⟨⟨s_sS mk_129 mk_147 ok_147 (by decide +kernel) dX11_parade_13 w_820 w_821, s_h0 mk_129⟩, (List.forall_mem_cons.mpr ⟨⟨s_ldI dX11_parade_16, s_mo_ldI _ _⟩, (List.forall_mem_cons.mpr ⟨⟨s_iconst dX11_parade_18 (by decide +kernel), s_mo_push _ _⟩, (List.forall_mem_cons.mpr ⟨⟨s_icge dX11_parade_19 (by decide), s_mo_icge _ _⟩, (List.forall_mem_cons.mpr ⟨s_t mk_129 dX11_parade_22 dX11_parade_25 dX11_parade_26 dX11_parade_29 (by decide +kernel) w_620 w_20 x_GlassCity_112g x_GlassCity_112b x_GlassCity_112o, (List.forall_mem_cons.mpr ⟨⟨s_ldAn dX11_parade_30 rfl, s_mo_ldA _ _⟩, (List.forall_mem_cons.mpr ⟨⟨s_getf (ci := 7) (k := 9) rfl (by decide) inX11 w_306 dX11_parade_31, s_mo_getf _ _ _⟩, (List.forall_mem_cons.mpr ⟨⟨s_ldAn dX11_parade_34 rfl, s_mo_ldA _ _⟩, (List.forall_mem_cons.mpr ⟨⟨s_getf (ci := 7) (k := 0) rfl (by decide) inX11 w_297 dX11_parade_35, s_mo_getf _ _ _⟩, (List.forall_mem_cons.mpr ⟨⟨s_ldIn dX11_parade_38 rfl, s_mo_ldI _ _⟩, (List.forall_mem_cons.mpr ⟨⟨s_ldIn dX11_parade_39 rfl, s_mo_ldI _ _⟩, (List.forall_mem_cons.mpr ⟨⟨s_ldIn dX11_parade_40 rfl, s_mo_ldI _ _⟩, (List.forall_mem_cons.mpr ⟨⟨s_sV mk_129 mk_90 ok_90 (by decide +kernel) dX11_parade_41 w_1055 w_1056 w_1057 (Or.inr ⟨6, _, _, rfl, rfl⟩), s_h0 mk_129⟩, (List.forall_mem_cons.mpr ⟨⟨s_ldAn dX11_parade_44 rfl, s_mo_ldA _ _⟩, (List.forall_mem_cons.mpr ⟨⟨s_getf (ci := 7) (k := 9) rfl (by decide) inX11 w_306 dX11_parade_45, s_mo_getf _ _ _⟩, (List.forall_mem_cons.mpr ⟨⟨s_ldAn dX11_parade_48 rfl, s_mo_ldA _ _⟩, (List.forall_mem_cons.mpr ⟨⟨s_getf (ci := 7) (k := 0) rfl (by decide) inX11 w_297 dX11_parade_49, s_mo_getf _ _ _⟩, (List.forall_mem_cons.mpr ⟨⟨s_ldI dX11_parade_52, s_mo_ldI _ _⟩, (List.forall_mem_cons.mpr ⟨⟨s_sV mk_129 mk_94 ok_94 (by decide +kernel) dX11_parade_54 w_1142 w_1143 w_1144 (Or.inr ⟨6, _, _, rfl, rfl⟩), s_h0 mk_129⟩, (List.forall_mem_cons.mpr ⟨⟨s_stI dX11_parade_57, s_mo_stI _ _⟩, (List.forall_mem_cons.mpr ⟨⟨s_ldI dX11_parade_59, s_mo_ldI _ _⟩, (List.forall_mem_cons.mpr ⟨⟨s_iconst dX11_parade_61 (by decide +kernel), s_mo_push _ _⟩, (List.forall_mem_cons.mpr ⟨⟨s_iceq dX11_parade_62 (by decide), s_mo_iceq _ _⟩, (fun _ h => absurd h List.not_mem_nil)⟩)⟩)⟩)⟩)⟩)⟩)⟩)⟩)⟩)⟩)⟩)⟩)⟩)⟩)⟩)⟩)⟩)⟩)⟩)⟩)⟩)⟩)⟩)⟩)⟩)⟩)⟩)⟩)⟩)⟩)⟩)
set_option maxRecDepth 20000 in
theorem kb_129_1 : ∀ q ∈ tb_129_1, s_atx 129 yX11_parade cX11_parade q.1 q.2 := (List.forall_mem_cons.mpr ⟨⟨s_ldI dX11_parade_65, s_mo_ldI _ _⟩, (List.forall_mem_cons.mpr ⟨⟨s_iconst dX11_parade_67 (by decide +kernel), s_mo_push _ _⟩, (List.forall_mem_cons.mpr ⟨⟨s_icne dX11_parade_68 (by decide), s_mo_icne _ _⟩, (List.forall_mem_cons.mpr ⟨⟨s_ldI dX11_parade_71, s_mo_ldI _ _⟩, (List.forall_mem_cons.mpr ⟨s_r1 mk_129 dX11_parade_73, (List.forall_mem_cons.mpr ⟨⟨s_ldI dX11_parade_74, s_mo_ldI _ _⟩, (List.forall_mem_cons.mpr ⟨⟨s_ldI dX11_parade_76, s_mo_ldI _ _⟩, (List.forall_mem_cons.mpr ⟨⟨s_icle dX11_parade_78 (by decide), s_mo_icle _ _⟩, (List.forall_mem_cons.mpr ⟨⟨s_iconst dX11_parade_81 (by decide +kernel), s_mo_push _ _⟩, (List.forall_mem_cons.mpr ⟨⟨s_goto dX11_parade_82 (by decide), s_mo_goto _⟩, (List.forall_mem_cons.mpr ⟨⟨s_ldAn dX11_parade_85 rfl, s_mo_ldA _ _⟩, (List.forall_mem_cons.mpr ⟨⟨s_getf (ci := 7) (k := 9) rfl (by decide) inX11 w_306 dX11_parade_86, s_mo_getf _ _ _⟩, (List.forall_mem_cons.mpr ⟨⟨s_ldAn dX11_parade_89 rfl, s_mo_ldA _ _⟩, (List.forall_mem_cons.mpr ⟨⟨s_getf (ci := 7) (k := 0) rfl (by decide) inX11 w_297 dX11_parade_90, s_mo_getf _ _ _⟩, (List.forall_mem_cons.mpr ⟨⟨s_ldI dX11_parade_93, s_mo_ldI _ _⟩, (List.forall_mem_cons.mpr ⟨⟨s_ldI dX11_parade_95, s_mo_ldI _ _⟩, (List.forall_mem_cons.mpr ⟨⟨s_sV mk_129 mk_96 ok_96 (by decide +kernel) dX11_parade_97 w_1146 w_1147 w_1148 (Or.inr ⟨6, _, _, rfl, rfl⟩), s_h0 mk_129⟩, (List.forall_mem_cons.mpr ⟨s_r1 mk_129 dX11_parade_100, (fun _ h => absurd h List.not_mem_nil)⟩)⟩)⟩)⟩)⟩)⟩)⟩)⟩)⟩)⟩)⟩)⟩)⟩)⟩)⟩)⟩)⟩)⟩)
theorem km_129 : ∀ t ∈ tm_129, s_tok 129 t := (List.forall_mem_cons.mpr ⟨s_lift mk_129 kb_129_0, (List.forall_mem_cons.mpr ⟨s_lift mk_129 kb_129_1, (fun _ h => absurd h List.not_mem_nil)⟩)⟩)
