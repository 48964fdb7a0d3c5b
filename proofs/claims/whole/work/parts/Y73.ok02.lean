/-! The tables are backed, piece by piece: written by wip/whole/gen_prog.py -/
theorem dX5_lets_0 : decode cX5_lets 0 = .ok (.aload_n 0, 1) := by decide +kernel
theorem dX5_lets_1 : decode cX5_lets 1 = .ok (.aload_n 1, 1) := by decide +kernel
theorem dX5_lets_2 : decode cX5_lets 2 = .ok (.iload_n 2, 1) := by decide +kernel
theorem dX5_lets_3 : decode cX5_lets 3 = .ok (.iload_n 3, 1) := by decide +kernel
theorem dX5_lets_4 : decode cX5_lets 4 = .ok (.invokevirtual 43, 3) := by decide +kernel
theorem dX5_lets_7 : decode cX5_lets 7 = .ok (.iconst 0, 1) := by decide +kernel
theorem dX5_lets_8 : decode cX5_lets 8 = .ok (.istore 4, 2) := by decide +kernel
theorem dX5_lets_10 : decode cX5_lets 10 = .ok (.iload 4, 2) := by decide +kernel
theorem dX5_lets_12 : decode cX5_lets 12 = .ok (.aload_n 0, 1) := by decide +kernel
theorem dX5_lets_13 : decode cX5_lets 13 = .ok (.getfield 9, 3) := by decide +kernel
theorem dX5_lets_16 : decode cX5_lets 16 = .ok (.if_icmp .ge 46, 3) := by decide +kernel
theorem dX5_lets_19 : decode cX5_lets 19 = .ok (.aload_n 0, 1) := by decide +kernel
theorem dX5_lets_20 : decode cX5_lets 20 = .ok (.getfield 15, 3) := by decide +kernel
theorem dX5_lets_23 : decode cX5_lets 23 = .ok (.iload 4, 2) := by decide +kernel
theorem dX5_lets_25 : decode cX5_lets 25 = .ok (.iaload, 1) := by decide +kernel
theorem dX5_lets_26 : decode cX5_lets 26 = .ok (.iconst 2, 1) := by decide +kernel
theorem dX5_lets_27 : decode cX5_lets 27 = .ok (.if_icmp .eq 29, 3) := by decide +kernel
theorem dX5_lets_30 : decode cX5_lets 30 = .ok (.aload_n 0, 1) := by decide +kernel
theorem dX5_lets_31 : decode cX5_lets 31 = .ok (.iload 4, 2) := by decide +kernel
theorem dX5_lets_33 : decode cX5_lets 33 = .ok (.invokevirtual 47, 3) := by decide +kernel
theorem dX5_lets_36 : decode cX5_lets 36 = .ok (.ifCond .eq 20, 3) := by decide +kernel
theorem dX5_lets_39 : decode cX5_lets 39 = .ok (.aload_n 0, 1) := by decide +kernel
theorem dX5_lets_40 : decode cX5_lets 40 = .ok (.getfield 15, 3) := by decide +kernel
theorem dX5_lets_43 : decode cX5_lets 43 = .ok (.iload 4, 2) := by decide +kernel
theorem dX5_lets_45 : decode cX5_lets 45 = .ok (.iaload, 1) := by decide +kernel
theorem dX5_lets_46 : decode cX5_lets 46 = .ok (.iconst 1, 1) := by decide +kernel
theorem dX5_lets_47 : decode cX5_lets 47 = .ok (.if_icmp .ne 7, 3) := by decide +kernel
theorem dX5_lets_50 : decode cX5_lets 50 = .ok (.iconst 1, 1) := by decide +kernel
theorem dX5_lets_51 : decode cX5_lets 51 = .ok (.goto 4, 3) := by decide +kernel
theorem dX5_lets_54 : decode cX5_lets 54 = .ok (.iconst 0, 1) := by decide +kernel
theorem dX5_lets_55 : decode cX5_lets 55 = .ok (.ireturn, 1) := by decide +kernel
theorem dX5_lets_56 : decode cX5_lets 56 = .ok (.iinc 4 1, 3) := by decide +kernel
theorem dX5_lets_59 : decode cX5_lets 59 = .ok (.goto (-49), 3) := by decide +kernel
theorem dX5_lets_62 : decode cX5_lets 62 = .ok (.aload_n 0, 1) := by decide +kernel
theorem dX5_lets_63 : decode cX5_lets 63 = .ok (.getfield 31, 3) := by decide +kernel
theorem dX5_lets_66 : decode cX5_lets 66 = .ok (.iconst 4, 1) := by decide +kernel
theorem dX5_lets_67 : decode cX5_lets 67 = .ok (.iaload, 1) := by decide +kernel
theorem dX5_lets_68 : decode cX5_lets 68 = .ok (.bipush 20, 2) := by decide +kernel
theorem dX5_lets_70 : decode cX5_lets 70 = .ok (.if_icmp .le 7, 3) := by decide +kernel
theorem dX5_lets_73 : decode cX5_lets 73 = .ok (.iconst 1, 1) := by decide +kernel
theorem dX5_lets_74 : decode cX5_lets 74 = .ok (.goto 4, 3) := by decide +kernel
theorem dX5_lets_77 : decode cX5_lets 77 = .ok (.iconst 0, 1) := by decide +kernel
theorem dX5_lets_78 : decode cX5_lets 78 = .ok (.ireturn, 1) := by decide +kernel
set_option maxRecDepth 20000 in
theorem kb_45_0 : ∀ q ∈ tb_45_0, s_atx 45 yX5_lets cX5_lets q.1 q.2 := (List.forall_mem_cons.mpr ⟨⟨s_ldAn dX5_lets_0 rfl, s_mo_ldA _ _⟩, (List.forall_mem_cons.mpr ⟨⟨s_ldAn dX5_lets_1 rfl, s_mo_ldA _ _⟩, (List.forall_mem_cons.mpr ⟨⟨s_ldIn dX5_lets_2 rfl, s_mo_ldI _ _⟩, (List.forall_mem_cons.mpr ⟨⟨s_ldIn dX5_lets_3 rfl, s_mo_ldI _ _⟩, (List.forall_mem_cons.mpr ⟨⟨s_sV mk_45 mk_47 ok_47 (by decide +kernel) dX5_lets_4 w_916 w_918 wp_10 (Or.inr ⟨2, _, _, rfl, rfl⟩), s_h0 mk_45⟩, (List.forall_mem_cons.mpr ⟨⟨s_iconst dX5_lets_7 (by decide +kernel), s_mo_push _ _⟩, (List.forall_mem_cons.mpr ⟨⟨s_stI dX5_lets_8, s_mo_stI _ _⟩, (List.forall_mem_cons.mpr ⟨⟨s_ldI dX5_lets_10, s_mo_ldI _ _⟩, (List.forall_mem_cons.mpr ⟨⟨s_ldAn dX5_lets_12 rfl, s_mo_ldA _ _⟩, (List.forall_mem_cons.mpr ⟨⟨s_getf (ci := 2) (k := 0) rfl (by decide) inX5 w_166 dX5_lets_13, s_mo_getf _ _ _⟩, (List.forall_mem_cons.mpr ⟨⟨s_icge dX5_lets_16 (by decide), s_mo_icge _ _⟩, (List.forall_mem_cons.mpr ⟨⟨s_ldAn dX5_lets_19 rfl, s_mo_ldA _ _⟩, (List.forall_mem_cons.mpr ⟨⟨s_getf (ci := 2) (k := 1) rfl (by decide) inX5 w_168 dX5_lets_20, s_mo_getf _ _ _⟩, (List.forall_mem_cons.mpr ⟨⟨s_ldI dX5_lets_23, s_mo_ldI _ _⟩, (List.forall_mem_cons.mpr ⟨⟨s_iald dX5_lets_25, s_mo_iald _⟩, (List.forall_mem_cons.mpr ⟨⟨s_iconst dX5_lets_26 (by decide +kernel), s_mo_push _ _⟩, (List.forall_mem_cons.mpr ⟨⟨s_iceq dX5_lets_27 (by decide), s_mo_iceq _ _⟩, (List.forall_mem_cons.mpr ⟨⟨s_ldAn dX5_lets_30 rfl, s_mo_ldA _ _⟩, (List.forall_mem_cons.mpr ⟨⟨s_ldI dX5_lets_31, s_mo_ldI _ _⟩, (List.forall_mem_cons.mpr ⟨⟨s_sV mk_45 mk_48 ok_48 (by decide +kernel) dX5_lets_33 w_922 w_924 wp_11 (Or.inr ⟨2, _, _, rfl, rfl⟩), s_h0 mk_45⟩, (List.forall_mem_cons.mpr ⟨⟨s_ifeq dX5_lets_36 (by decide), s_mo_ifeq _ _⟩, (List.forall_mem_cons.mpr ⟨⟨s_ldAn dX5_lets_39 rfl, s_mo_ldA _ _⟩, (List.forall_mem_cons.mpr ⟨⟨s_getf (ci := 2) (k := 1) rfl (by decide) inX5 w_168 dX5_lets_40, s_mo_getf _ _ _⟩, (List.forall_mem_cons.mpr ⟨⟨s_ldI dX5_lets_43, s_mo_ldI _ _⟩, (List.forall_mem_cons.mpr ⟨⟨s_iald dX5_lets_45, s_mo_iald _⟩, (List.forall_mem_cons.mpr ⟨⟨s_iconst dX5_lets_46 (by decide +kernel), s_mo_push _ _⟩, (List.forall_mem_cons.mpr ⟨⟨s_icne dX5_lets_47 (by decide), s_mo_icne _ _⟩, (List.forall_mem_cons.mpr ⟨⟨s_iconst dX5_lets_50 (by decide +kernel), s_mo_push _ _⟩, (List.forall_mem_cons.mpr ⟨⟨s_goto dX5_lets_51 (by decide), s_mo_goto _⟩, (List.forall_mem_cons.mpr ⟨⟨s_iconst dX5_lets_54 (by decide +kernel), s_mo_push _ _⟩, (List.forall_mem_cons.mpr ⟨s_r2 mk_45 dX5_lets_55, (List.forall_mem_cons.mpr ⟨⟨s_inc dX5_lets_56 (by decide +kernel), s_mo_inc _ _ _⟩, (List.forall_mem_cons.mpr ⟨⟨s_goto dX5_lets_59 (by decide), s_mo_goto _⟩, (List.forall_mem_cons.mpr ⟨⟨s_ldAn dX5_lets_62 rfl, s_mo_ldA _ _⟩, (List.forall_mem_cons.mpr ⟨⟨s_getf (ci := 2) (k := 6) rfl (by decide) inX5 w_173 dX5_lets_63, s_mo_getf _ _ _⟩, (fun _ h => absurd h List.not_mem_nil)⟩)⟩)⟩)⟩)⟩)⟩)⟩)⟩)⟩)⟩)⟩)⟩)⟩)⟩)⟩)⟩)⟩)⟩)⟩)⟩)⟩)⟩)⟩)⟩)⟩)⟩)⟩)⟩)⟩)⟩)⟩)⟩)⟩)⟩)⟩)
set_option maxRecDepth 20000 in
theorem kb_45_1 : ∀ q ∈ tb_45_1, s_atx 45 yX5_lets cX5_lets q.1 q.2 := (List.forall_mem_cons.mpr ⟨⟨s_iconst dX5_lets_66 (by decide +kernel), s_mo_push _ _⟩, (List.forall_mem_cons.mpr ⟨⟨s_iald dX5_lets_67, s_mo_iald _⟩, (List.forall_mem_cons.mpr ⟨⟨s_bipush dX5_lets_68 (by decide +kernel), s_mo_push _ _⟩, (List.forall_mem_cons.mpr ⟨⟨s_icle dX5_lets_70 (by decide), s_mo_icle _ _⟩, (List.forall_mem_cons.mpr ⟨⟨s_iconst dX5_lets_73 (by decide +kernel), s_mo_push _ _⟩, (List.forall_mem_cons.mpr ⟨⟨s_goto dX5_lets_74 (by decide), s_mo_goto _⟩, (List.forall_mem_cons.mpr ⟨⟨s_iconst dX5_lets_77 (by decide +kernel), s_mo_push _ _⟩, (List.forall_mem_cons.mpr ⟨s_r2 mk_45 dX5_lets_78, (fun _ h => absurd h List.not_mem_nil)⟩)⟩)⟩)⟩)⟩)⟩)⟩)⟩)
theorem km_45 : ∀ t ∈ tm_45, s_tok 45 t := (List.forall_mem_cons.mpr ⟨s_lift mk_45 kb_45_0, (List.forall_mem_cons.mpr ⟨s_lift mk_45 kb_45_1, (fun _ h => absurd h List.not_mem_nil)⟩)⟩)
theorem dX5_fineFor_0 : decode cX5_fineFor 0 = .ok (.aload_n 0, 1) := by decide +kernel
theorem dX5_fineFor_1 : decode cX5_fineFor 1 = .ok (.aload_n 1, 1) := by decide +kernel
theorem dX5_fineFor_2 : decode cX5_fineFor 2 = .ok (.iload_n 2, 1) := by decide +kernel
theorem dX5_fineFor_3 : decode cX5_fineFor 3 = .ok (.iload_n 3, 1) := by decide +kernel
theorem dX5_fineFor_4 : decode cX5_fineFor 4 = .ok (.invokevirtual 51, 3) := by decide +kernel
theorem dX5_fineFor_7 : decode cX5_fineFor 7 = .ok (.ifCond .ne 5, 3) := by decide +kernel
theorem dX5_fineFor_10 : decode cX5_fineFor 10 = .ok (.iconst 0, 1) := by decide +kernel
theorem dX5_fineFor_11 : decode cX5_fineFor 11 = .ok (.ireturn, 1) := by decide +kernel
theorem dX5_fineFor_12 : decode cX5_fineFor 12 = .ok (.iconst 0, 1) := by decide +kernel
theorem dX5_fineFor_13 : decode cX5_fineFor 13 = .ok (.istore 4, 2) := by decide +kernel
theorem dX5_fineFor_15 : decode cX5_fineFor 15 = .ok (.iconst 0, 1) := by decide +kernel
theorem dX5_fineFor_16 : decode cX5_fineFor 16 = .ok (.istore 5, 2) := by decide +kernel
theorem dX5_fineFor_18 : decode cX5_fineFor 18 = .ok (.iload 5, 2) := by decide +kernel
theorem dX5_fineFor_20 : decode cX5_fineFor 20 = .ok (.aload_n 0, 1) := by decide +kernel
theorem dX5_fineFor_21 : decode cX5_fineFor 21 = .ok (.getfield 9, 3) := by decide +kernel
theorem dX5_fineFor_24 : decode cX5_fineFor 24 = .ok (.if_icmp .ge 41, 3) := by decide +kernel
theorem dX5_fineFor_27 : decode cX5_fineFor 27 = .ok (.aload_n 0, 1) := by decide +kernel
theorem dX5_fineFor_28 : decode cX5_fineFor 28 = .ok (.getfield 15, 3) := by decide +kernel
theorem dX5_fineFor_31 : decode cX5_fineFor 31 = .ok (.iload 5, 2) := by decide +kernel
theorem dX5_fineFor_33 : decode cX5_fineFor 33 = .ok (.iaload, 1) := by decide +kernel
theorem dX5_fineFor_34 : decode cX5_fineFor 34 = .ok (.iconst 2, 1) := by decide +kernel
theorem dX5_fineFor_35 : decode cX5_fineFor 35 = .ok (.if_icmp .ne 24, 3) := by decide +kernel
theorem dX5_fineFor_38 : decode cX5_fineFor 38 = .ok (.aload_n 0, 1) := by decide +kernel
theorem dX5_fineFor_39 : decode cX5_fineFor 39 = .ok (.iload 5, 2) := by decide +kernel
theorem dX5_fineFor_41 : decode cX5_fineFor 41 = .ok (.invokevirtual 47, 3) := by decide +kernel
theorem dX5_fineFor_44 : decode cX5_fineFor 44 = .ok (.ifCond .eq 15, 3) := by decide +kernel
theorem dX5_fineFor_47 : decode cX5_fineFor 47 = .ok (.iload 4, 2) := by decide +kernel
theorem dX5_fineFor_49 : decode cX5_fineFor 49 = .ok (.aload_n 0, 1) := by decide +kernel
theorem dX5_fineFor_50 : decode cX5_fineFor 50 = .ok (.getfield 19, 3) := by decide +kernel
theorem dX5_fineFor_53 : decode cX5_fineFor 53 = .ok (.iload 5, 2) := by decide +kernel
theorem dX5_fineFor_55 : decode cX5_fineFor 55 = .ok (.iaload, 1) := by decide +kernel
theorem dX5_fineFor_56 : decode cX5_fineFor 56 = .ok (.iadd, 1) := by decide +kernel
theorem dX5_fineFor_57 : decode cX5_fineFor 57 = .ok (.istore 4, 2) := by decide +kernel
theorem dX5_fineFor_59 : decode cX5_fineFor 59 = .ok (.iinc 5 1, 3) := by decide +kernel
theorem dX5_fineFor_62 : decode cX5_fineFor 62 = .ok (.goto (-44), 3) := by decide +kernel
theorem dX5_fineFor_65 : decode cX5_fineFor 65 = .ok (.iload 4, 2) := by decide +kernel
theorem dX5_fineFor_67 : decode cX5_fineFor 67 = .ok (.ireturn, 1) := by decide +kernel
set_option maxRecDepth 20000 in
theorem kb_46_0 : ∀ q ∈ tb_46_0, s_atx 46 yX5_fineFor cX5_fineFor q.1 q.2 := (List.forall_mem_cons.mpr ⟨⟨s_ldAn dX5_fineFor_0 rfl, s_mo_ldA _ _⟩, (List.forall_mem_cons.mpr ⟨⟨s_ldAn dX5_fineFor_1 rfl, s_mo_ldA _ _⟩, (List.forall_mem_cons.mpr ⟨⟨s_ldIn dX5_fineFor_2 rfl, s_mo_ldI _ _⟩, (List.forall_mem_cons.mpr ⟨⟨s_ldIn dX5_fineFor_3 rfl, s_mo_ldI _ _⟩, (List.forall_mem_cons.mpr ⟨⟨s_sV mk_46 mk_45 ok_45 (by decide +kernel) dX5_fineFor_4 w_944 w_913 w_914 (Or.inr ⟨2, _, _, rfl, rfl⟩), s_h0 mk_46⟩, (List.forall_mem_cons.mpr ⟨⟨s_ifne dX5_fineFor_7 (by decide), s_mo_ifne _ _⟩, (List.forall_mem_cons.mpr ⟨⟨s_iconst dX5_fineFor_10 (by decide +kernel), s_mo_push _ _⟩, (List.forall_mem_cons.mpr ⟨s_r1 mk_46 dX5_fineFor_11, (List.forall_mem_cons.mpr ⟨⟨s_iconst dX5_fineFor_12 (by decide +kernel), s_mo_push _ _⟩, (List.forall_mem_cons.mpr ⟨⟨s_stI dX5_fineFor_13, s_mo_stI _ _⟩, (List.forall_mem_cons.mpr ⟨⟨s_iconst dX5_fineFor_15 (by decide +kernel), s_mo_push _ _⟩, (List.forall_mem_cons.mpr ⟨⟨s_stI dX5_fineFor_16, s_mo_stI _ _⟩, (List.forall_mem_cons.mpr ⟨⟨s_ldI dX5_fineFor_18, s_mo_ldI _ _⟩, (List.forall_mem_cons.mpr ⟨⟨s_ldAn dX5_fineFor_20 rfl, s_mo_ldA _ _⟩, (List.forall_mem_cons.mpr ⟨⟨s_getf (ci := 2) (k := 0) rfl (by decide) inX5 w_166 dX5_fineFor_21, s_mo_getf _ _ _⟩, (List.forall_mem_cons.mpr ⟨⟨s_icge dX5_fineFor_24 (by decide), s_mo_icge _ _⟩, (List.forall_mem_cons.mpr ⟨⟨s_ldAn dX5_fineFor_27 rfl, s_mo_ldA _ _⟩, (List.forall_mem_cons.mpr ⟨⟨s_getf (ci := 2) (k := 1) rfl (by decide) inX5 w_168 dX5_fineFor_28, s_mo_getf _ _ _⟩, (List.forall_mem_cons.mpr ⟨⟨s_ldI dX5_fineFor_31, s_mo_ldI _ _⟩, (List.forall_mem_cons.mpr ⟨⟨s_iald dX5_fineFor_33, s_mo_iald _⟩, (List.forall_mem_cons.mpr ⟨⟨s_iconst dX5_fineFor_34 (by decide +kernel), s_mo_push _ _⟩, (List.forall_mem_cons.mpr ⟨⟨s_icne dX5_fineFor_35 (by decide), s_mo_icne _ _⟩, (List.forall_mem_cons.mpr ⟨⟨s_ldAn dX5_fineFor_38 rfl, s_mo_ldA _ _⟩, (List.forall_mem_cons.mpr ⟨⟨s_ldI dX5_fineFor_39, s_mo_ldI _ _⟩, (List.forall_mem_cons.mpr ⟨⟨s_sV mk_46 mk_48 ok_48 (by decide +kernel) dX5_fineFor_41 w_922 w_924 wp_11 (Or.inr ⟨2, _, _, rfl, rfl⟩), s_h0 mk_46⟩, (List.forall_mem_cons.mpr ⟨⟨s_ifeq dX5_fineFor_44 (by decide), s_mo_ifeq _ _⟩, (List.forall_mem_cons.mpr ⟨⟨s_ldI dX5_fineFor_47, s_mo_ldI _ _⟩, (List.forall_mem_cons.mpr ⟨⟨s_ldAn dX5_fineFor_49 rfl, s_mo_ldA _ _⟩, (List.forall_mem_cons.mpr ⟨⟨s_getf (ci := 2) (k := 2) rfl (by decide) inX5 w_169 dX5_fineFor_50, s_mo_getf _ _ _⟩, (List.forall_mem_cons.mpr ⟨⟨s_ldI dX5_fineFor_53, s_mo_ldI _ _⟩, (List.forall_mem_cons.mpr ⟨⟨s_iald dX5_fineFor_55, s_mo_iald _⟩, (List.forall_mem_cons.mpr ⟨⟨s_iadd dX5_fineFor_56, s_mo_bin _ _⟩, (List.forall_mem_cons.mpr ⟨⟨s_stI dX5_fineFor_57, s_mo_stI _ _⟩, (List.forall_mem_cons.mpr ⟨⟨s_inc dX5_fineFor_59 (by decide +kernel), s_mo_inc _ _ _⟩, (List.forall_mem_cons.mpr ⟨⟨s_goto dX5_fineFor_62 (by decide), s_mo_goto _⟩, (fun _ h => absurd h List.not_mem_nil)⟩)⟩)⟩)⟩)⟩)⟩)⟩)⟩)⟩)⟩)⟩)⟩)⟩)⟩)⟩)⟩)⟩)⟩)⟩)⟩)⟩)⟩)⟩)⟩)⟩)⟩)⟩)⟩)⟩)⟩)⟩)⟩)⟩)⟩)⟩)
set_option maxRecDepth 20000 in
theorem kb_46_1 : ∀ q ∈ tb_46_1, s_atx 46 yX5_fineFor cX5_fineFor q.1 q.2 := (List.forall_mem_cons.mpr ⟨⟨s_ldI dX5_fineFor_65, s_mo_ldI _ _⟩, (List.forall_mem_cons.mpr ⟨s_r1 mk_46 dX5_fineFor_67, (fun _ h => absurd h List.not_mem_nil)⟩)⟩)
theorem km_46 : ∀ t ∈ tm_46, s_tok 46 t := (List.forall_mem_cons.mpr ⟨s_lift mk_46 kb_46_0, (List.forall_mem_cons.mpr ⟨s_lift mk_46 kb_46_1, (fun _ h => absurd h List.not_mem_nil)⟩)⟩)
theorem dX5_gather_0 : decode cX5_gather 0 = .ok (.aload_n 0, 1) := by decide +kernel
theorem dX5_gather_1 : decode cX5_gather 1 = .ok (.getfield 31, 3) := by decide +kernel
theorem dX5_gather_4 : decode cX5_gather 4 = .ok (.iconst 0, 1) := by decide +kernel
theorem dX5_gather_5 : decode cX5_gather 5 = .ok (.aload_n 1, 1) := by decide +kernel
theorem dX5_gather_6 : decode cX5_gather 6 = .ok (.getfield 55, 3) := by decide +kernel
theorem dX5_gather_9 : decode cX5_gather 9 = .ok (.iload_n 2, 1) := by decide +kernel
theorem dX5_gather_10 : decode cX5_gather 10 = .ok (.iaload, 1) := by decide +kernel
theorem dX5_gather_11 : decode cX5_gather 11 = .ok (.iastore, 1) := by decide +kernel
theorem dX5_gather_12 : decode cX5_gather 12 = .ok (.aload_n 0, 1) := by decide +kernel
theorem dX5_gather_13 : decode cX5_gather 13 = .ok (.getfield 31, 3) := by decide +kernel
theorem dX5_gather_16 : decode cX5_gather 16 = .ok (.iconst 1, 1) := by decide +kernel
theorem dX5_gather_17 : decode cX5_gather 17 = .ok (.aload_n 1, 1) := by decide +kernel
theorem dX5_gather_18 : decode cX5_gather 18 = .ok (.getfield 60, 3) := by decide +kernel
theorem dX5_gather_21 : decode cX5_gather 21 = .ok (.iload_n 2, 1) := by decide +kernel
theorem dX5_gather_22 : decode cX5_gather 22 = .ok (.iaload, 1) := by decide +kernel
theorem dX5_gather_23 : decode cX5_gather 23 = .ok (.iastore, 1) := by decide +kernel
theorem dX5_gather_24 : decode cX5_gather 24 = .ok (.aload_n 0, 1) := by decide +kernel
theorem dX5_gather_25 : decode cX5_gather 25 = .ok (.getfield 31, 3) := by decide +kernel
theorem dX5_gather_28 : decode cX5_gather 28 = .ok (.iconst 2, 1) := by decide +kernel
theorem dX5_gather_29 : decode cX5_gather 29 = .ok (.aload_n 1, 1) := by decide +kernel
theorem dX5_gather_30 : decode cX5_gather 30 = .ok (.getfield 63, 3) := by decide +kernel
theorem dX5_gather_33 : decode cX5_gather 33 = .ok (.iload_n 2, 1) := by decide +kernel
theorem dX5_gather_34 : decode cX5_gather 34 = .ok (.iaload, 1) := by decide +kernel
theorem dX5_gather_35 : decode cX5_gather 35 = .ok (.iastore, 1) := by decide +kernel
theorem dX5_gather_36 : decode cX5_gather 36 = .ok (.aload_n 0, 1) := by decide +kernel
theorem dX5_gather_37 : decode cX5_gather 37 = .ok (.getfield 31, 3) := by decide +kernel
theorem dX5_gather_40 : decode cX5_gather 40 = .ok (.iconst 3, 1) := by decide +kernel
theorem dX5_gather_41 : decode cX5_gather 41 = .ok (.iload_n 3, 1) := by decide +kernel
theorem dX5_gather_42 : decode cX5_gather 42 = .ok (.iastore, 1) := by decide +kernel
theorem dX5_gather_43 : decode cX5_gather 43 = .ok (.aload_n 0, 1) := by decide +kernel
theorem dX5_gather_44 : decode cX5_gather 44 = .ok (.getfield 31, 3) := by decide +kernel
theorem dX5_gather_47 : decode cX5_gather 47 = .ok (.iconst 4, 1) := by decide +kernel
theorem dX5_gather_48 : decode cX5_gather 48 = .ok (.aload_n 1, 1) := by decide +kernel
theorem dX5_gather_49 : decode cX5_gather 49 = .ok (.iload_n 2, 1) := by decide +kernel
theorem dX5_gather_50 : decode cX5_gather 50 = .ok (.iload_n 3, 1) := by decide +kernel
theorem dX5_gather_51 : decode cX5_gather 51 = .ok (.invokevirtual 66, 3) := by decide +kernel
theorem dX5_gather_54 : decode cX5_gather 54 = .ok (.iastore, 1) := by decide +kernel
theorem dX5_gather_55 : decode cX5_gather 55 = .ok (.aload_n 0, 1) := by decide +kernel
theorem dX5_gather_56 : decode cX5_gather 56 = .ok (.getfield 31, 3) := by decide +kernel
theorem dX5_gather_59 : decode cX5_gather 59 = .ok (.iconst 5, 1) := by decide +kernel
theorem dX5_gather_60 : decode cX5_gather 60 = .ok (.aload_n 1, 1) := by decide +kernel
theorem dX5_gather_61 : decode cX5_gather 61 = .ok (.getfield 70, 3) := by decide +kernel
theorem dX5_gather_64 : decode cX5_gather 64 = .ok (.iload_n 2, 1) := by decide +kernel
theorem dX5_gather_65 : decode cX5_gather 65 = .ok (.iaload, 1) := by decide +kernel
theorem dX5_gather_66 : decode cX5_gather 66 = .ok (.iastore, 1) := by decide +kernel
theorem dX5_gather_67 : decode cX5_gather 67 = .ok (.aload_n 0, 1) := by decide +kernel
theorem dX5_gather_68 : decode cX5_gather 68 = .ok (.getfield 31, 3) := by decide +kernel
theorem dX5_gather_71 : decode cX5_gather 71 = .ok (.bipush 6, 2) := by decide +kernel
theorem dX5_gather_73 : decode cX5_gather 73 = .ok (.aload_n 1, 1) := by decide +kernel
theorem dX5_gather_74 : decode cX5_gather 74 = .ok (.iload_n 2, 1) := by decide +kernel
theorem dX5_gather_75 : decode cX5_gather 75 = .ok (.iload_n 3, 1) := by decide +kernel
theorem dX5_gather_76 : decode cX5_gather 76 = .ok (.invokevirtual 73, 3) := by decide +kernel
theorem dX5_gather_79 : decode cX5_gather 79 = .ok (.iastore, 1) := by decide +kernel
theorem dX5_gather_80 : decode cX5_gather 80 = .ok (.return_, 1) := by decide +kernel
set_option maxRecDepth 20000 in
theorem kb_47_0 : ∀ q ∈ tb_47_0, s_atx 47 yX5_gather cX5_gather q.1 q.2 := (List.forall_mem_cons.mpr ⟨⟨s_ldAn dX5_gather_0 rfl, s_mo_ldA _ _⟩, (List.forall_mem_cons.mpr ⟨⟨s_getf (ci := 2) (k := 6) rfl (by decide) inX5 w_173 dX5_gather_1, s_mo_getf _ _ _⟩, (List.forall_mem_cons.mpr ⟨⟨s_iconst dX5_gather_4 (by decide +kernel), s_mo_push _ _⟩, (List.forall_mem_cons.mpr ⟨⟨s_ldAn dX5_gather_5 rfl, s_mo_ldA _ _⟩, (List.forall_mem_cons.mpr ⟨⟨s_getf (ci := 0) (k := 6) rfl (by decide) inX0 w_74 dX5_gather_6, s_mo_getf _ _ _⟩, (List.forall_mem_cons.mpr ⟨⟨s_ldIn dX5_gather_9 rfl, s_mo_ldI _ _⟩, (List.forall_mem_cons.mpr ⟨⟨s_iald dX5_gather_10, s_mo_iald _⟩, (List.forall_mem_cons.mpr ⟨⟨s_iast dX5_gather_11, s_mo_iast _⟩, (List.forall_mem_cons.mpr ⟨⟨s_ldAn dX5_gather_12 rfl, s_mo_ldA _ _⟩, (List.forall_mem_cons.mpr ⟨⟨s_getf (ci := 2) (k := 6) rfl (by decide) inX5 w_173 dX5_gather_13, s_mo_getf _ _ _⟩, (List.forall_mem_cons.mpr ⟨⟨s_iconst dX5_gather_16 (by decide +kernel), s_mo_push _ _⟩, (List.forall_mem_cons.mpr ⟨⟨s_ldAn dX5_gather_17 rfl, s_mo_ldA _ _⟩, (List.forall_mem_cons.mpr ⟨⟨s_getf (ci := 0) (k := 8) rfl (by decide) inX0 w_86 dX5_gather_18, s_mo_getf _ _ _⟩, (List.forall_mem_cons.mpr ⟨⟨s_ldIn dX5_gather_21 rfl, s_mo_ldI _ _⟩, (List.forall_mem_cons.mpr ⟨⟨s_iald dX5_gather_22, s_mo_iald _⟩, (List.forall_mem_cons.mpr ⟨⟨s_iast dX5_gather_23, s_mo_iast _⟩, (List.forall_mem_cons.mpr ⟨⟨s_ldAn dX5_gather_24 rfl, s_mo_ldA _ _⟩, (List.forall_mem_cons.mpr ⟨⟨s_getf (ci := 2) (k := 6) rfl (by decide) inX5 w_173 dX5_gather_25, s_mo_getf _ _ _⟩, (List.forall_mem_cons.mpr ⟨⟨s_iconst dX5_gather_28 (by decide +kernel), s_mo_push _ _⟩, (List.forall_mem_cons.mpr ⟨⟨s_ldAn dX5_gather_29 rfl, s_mo_ldA _ _⟩, (List.forall_mem_cons.mpr ⟨⟨s_getf (ci := 0) (k := 9) rfl (by decide) inX0 w_93 dX5_gather_30, s_mo_getf _ _ _⟩, (List.forall_mem_cons.mpr ⟨⟨s_ldIn dX5_gather_33 rfl, s_mo_ldI _ _⟩, (List.forall_mem_cons.mpr ⟨⟨s_iald dX5_gather_34, s_mo_iald _⟩, (List.forall_mem_cons.mpr ⟨⟨s_iast dX5_gather_35, s_mo_iast _⟩, (List.forall_mem_cons.mpr ⟨⟨s_ldAn dX5_gather_36 rfl, s_mo_ldA _ _⟩, (List.forall_mem_cons.mpr ⟨⟨s_getf (ci := 2) (k := 6) rfl (by decide) inX5 w_173 dX5_gather_37, s_mo_getf _ _ _⟩, (List.forall_mem_cons.mpr ⟨⟨s_iconst dX5_gather_40 (by decide +kernel), s_mo_push _ _⟩, (List.forall_mem_cons.mpr ⟨⟨s_ldIn dX5_gather_41 rfl, s_mo_ldI _ _⟩, (List.forall_mem_cons.mpr ⟨⟨s_iast dX5_gather_42, s_mo_iast _⟩, (List.forall_mem_cons.mpr ⟨⟨s_ldAn dX5_gather_43 rfl, s_mo_ldA _ _⟩, (List.forall_mem_cons.mpr ⟨⟨s_getf (ci := 2) (k := 6) rfl (by decide) inX5 w_173 dX5_gather_44, s_mo_getf _ _ _⟩, (List.forall_mem_cons.mpr ⟨⟨s_iconst dX5_gather_47 (by decide +kernel), s_mo_push _ _⟩, (List.forall_mem_cons.mpr ⟨⟨s_ldAn dX5_gather_48 rfl, s_mo_ldA _ _⟩, (List.forall_mem_cons.mpr ⟨⟨s_ldIn dX5_gather_49 rfl, s_mo_ldI _ _⟩, (List.forall_mem_cons.mpr ⟨⟨s_ldIn dX5_gather_50 rfl, s_mo_ldI _ _⟩, (List.forall_mem_cons.mpr ⟨⟨s_sV mk_47 mk_15 ok_15 (by decide +kernel) dX5_gather_51 w_920 w_891 w_892 (Or.inr ⟨0, _, _, rfl, rfl⟩), s_h0 mk_47⟩, (List.forall_mem_cons.mpr ⟨⟨s_iast dX5_gather_54, s_mo_iast _⟩, (List.forall_mem_cons.mpr ⟨⟨s_ldAn dX5_gather_55 rfl, s_mo_ldA _ _⟩, (List.forall_mem_cons.mpr ⟨⟨s_getf (ci := 2) (k := 6) rfl (by decide) inX5 w_173 dX5_gather_56, s_mo_getf _ _ _⟩, (List.forall_mem_cons.mpr ⟨⟨s_iconst dX5_gather_59 (by decide +kernel), s_mo_push _ _⟩, (List.forall_mem_cons.mpr ⟨⟨s_ldAn dX5_gather_60 rfl, s_mo_ldA _ _⟩, (List.forall_mem_cons.mpr ⟨⟨s_getf (ci := 0) (k := 10) rfl (by decide) inX0 w_98 dX5_gather_61, s_mo_getf _ _ _⟩, (fun _ h => absurd h List.not_mem_nil)⟩)⟩)⟩)⟩)⟩)⟩)⟩)⟩)⟩)⟩)⟩)⟩)⟩)⟩)⟩)⟩)⟩)⟩)⟩)⟩)⟩)⟩)⟩)⟩)⟩)⟩)⟩)⟩)⟩)⟩)⟩)⟩)⟩)⟩)⟩)⟩)⟩)⟩)⟩)⟩)⟩)⟩)
set_option maxRecDepth 20000 in
theorem kb_47_1 : ∀ q ∈ tb_47_1, s_atx 47 yX5_gather cX5_gather q.1 q.2 := (List.forall_mem_cons.mpr ⟨⟨s_ldIn dX5_gather_64 rfl, s_mo_ldI _ _⟩, (List.forall_mem_cons.mpr ⟨⟨s_iald dX5_gather_65, s_mo_iald _⟩, (List.forall_mem_cons.mpr ⟨⟨s_iast dX5_gather_66, s_mo_iast _⟩, (List.forall_mem_cons.mpr ⟨⟨s_ldAn dX5_gather_67 rfl, s_mo_ldA _ _⟩, (List.forall_mem_cons.mpr ⟨⟨s_getf (ci := 2) (k := 6) rfl (by decide) inX5 w_173 dX5_gather_68, s_mo_getf _ _ _⟩, (List.forall_mem_cons.mpr ⟨⟨s_bipush dX5_gather_71 (by decide +kernel), s_mo_push _ _⟩, (List.forall_mem_cons.mpr ⟨⟨s_ldAn dX5_gather_73 rfl, s_mo_ldA _ _⟩, (List.forall_mem_cons.mpr ⟨⟨s_ldIn dX5_gather_74 rfl, s_mo_ldI _ _⟩, (List.forall_mem_cons.mpr ⟨⟨s_ldIn dX5_gather_75 rfl, s_mo_ldI _ _⟩, (List.forall_mem_cons.mpr ⟨⟨s_sV mk_47 mk_11 ok_11 (by decide +kernel) dX5_gather_76 w_921 w_841 w_842 (Or.inr ⟨0, _, _, rfl, rfl⟩), s_h0 mk_47⟩, (List.forall_mem_cons.mpr ⟨⟨s_iast dX5_gather_79, s_mo_iast _⟩, (List.forall_mem_cons.mpr ⟨s_r0 mk_47 dX5_gather_80, (fun _ h => absurd h List.not_mem_nil)⟩)⟩)⟩)⟩)⟩)⟩)⟩)⟩)⟩)⟩)⟩)⟩)
theorem km_47 : ∀ t ∈ tm_47, s_tok 47 t := (List.forall_mem_cons.mpr ⟨s_lift mk_47 kb_47_0, (List.forall_mem_cons.mpr ⟨s_lift mk_47 kb_47_1, (fun _ h => absurd h List.not_mem_nil)⟩)⟩)
theorem dX5_isTrue_0 : decode cX5_isTrue 0 = .ok (.iload_n 1, 1) := by decide +kernel
theorem dX5_isTrue_1 : decode cX5_isTrue 1 = .ok (.ifCond .ne 7, 3) := by decide +kernel
theorem dX5_isTrue_4 : decode cX5_isTrue 4 = .ok (.iconst 0, 1) := by decide +kernel
theorem dX5_isTrue_5 : decode cX5_isTrue 5 = .ok (.goto 11, 3) := by decide +kernel
theorem dX5_isTrue_8 : decode cX5_isTrue 8 = .ok (.aload_n 0, 1) := by decide +kernel
theorem dX5_isTrue_9 : decode cX5_isTrue 9 = .ok (.getfield 22, 3) := by decide +kernel
theorem dX5_isTrue_12 : decode cX5_isTrue 12 = .ok (.iload_n 1, 1) := by decide +kernel
theorem dX5_isTrue_13 : decode cX5_isTrue 13 = .ok (.iconst 1, 1) := by decide +kernel
theorem dX5_isTrue_14 : decode cX5_isTrue 14 = .ok (.isub, 1) := by decide +kernel
theorem dX5_isTrue_15 : decode cX5_isTrue 15 = .ok (.iaload, 1) := by decide +kernel
theorem dX5_isTrue_16 : decode cX5_isTrue 16 = .ok (.istore_n 2, 1) := by decide +kernel
theorem dX5_isTrue_17 : decode cX5_isTrue 17 = .ok (.iload_n 2, 1) := by decide +kernel
theorem dX5_isTrue_18 : decode cX5_isTrue 18 = .ok (.aload_n 0, 1) := by decide +kernel
theorem dX5_isTrue_19 : decode cX5_isTrue 19 = .ok (.getfield 22, 3) := by decide +kernel
theorem dX5_isTrue_22 : decode cX5_isTrue 22 = .ok (.iload_n 1, 1) := by decide +kernel
theorem dX5_isTrue_23 : decode cX5_isTrue 23 = .ok (.iaload, 1) := by decide +kernel
theorem dX5_isTrue_24 : decode cX5_isTrue 24 = .ok (.if_icmp .ne 5, 3) := by decide +kernel
theorem dX5_isTrue_27 : decode cX5_isTrue 27 = .ok (.iconst 1, 1) := by decide +kernel
theorem dX5_isTrue_28 : decode cX5_isTrue 28 = .ok (.ireturn, 1) := by decide +kernel
theorem dX5_isTrue_29 : decode cX5_isTrue 29 = .ok (.iconst 0, 1) := by decide +kernel
theorem dX5_isTrue_30 : decode cX5_isTrue 30 = .ok (.istore_n 3, 1) := by decide +kernel
theorem dX5_isTrue_31 : decode cX5_isTrue 31 = .ok (.iload_n 2, 1) := by decide +kernel
theorem dX5_isTrue_32 : decode cX5_isTrue 32 = .ok (.istore 4, 2) := by decide +kernel
theorem dX5_isTrue_34 : decode cX5_isTrue 34 = .ok (.iload 4, 2) := by decide +kernel
theorem dX5_isTrue_36 : decode cX5_isTrue 36 = .ok (.aload_n 0, 1) := by decide +kernel
theorem dX5_isTrue_37 : decode cX5_isTrue 37 = .ok (.getfield 22, 3) := by decide +kernel
theorem dX5_isTrue_40 : decode cX5_isTrue 40 = .ok (.iload_n 1, 1) := by decide +kernel
theorem dX5_isTrue_41 : decode cX5_isTrue 41 = .ok (.iaload, 1) := by decide +kernel
theorem dX5_isTrue_42 : decode cX5_isTrue 42 = .ok (.if_icmp .ge 22, 3) := by decide +kernel
theorem dX5_isTrue_45 : decode cX5_isTrue 45 = .ok (.aload_n 0, 1) := by decide +kernel
theorem dX5_isTrue_46 : decode cX5_isTrue 46 = .ok (.aload_n 0, 1) := by decide +kernel
theorem dX5_isTrue_47 : decode cX5_isTrue 47 = .ok (.getfield 25, 3) := by decide +kernel
theorem dX5_isTrue_50 : decode cX5_isTrue 50 = .ok (.iload 4, 2) := by decide +kernel
theorem dX5_isTrue_52 : decode cX5_isTrue 52 = .ok (.iaload, 1) := by decide +kernel
theorem dX5_isTrue_53 : decode cX5_isTrue 53 = .ok (.iload_n 3, 1) := by decide +kernel
theorem dX5_isTrue_54 : decode cX5_isTrue 54 = .ok (.invokevirtual 76, 3) := by decide +kernel
theorem dX5_isTrue_57 : decode cX5_isTrue 57 = .ok (.istore_n 3, 1) := by decide +kernel
theorem dX5_isTrue_58 : decode cX5_isTrue 58 = .ok (.iinc 4 1, 3) := by decide +kernel
theorem dX5_isTrue_61 : decode cX5_isTrue 61 = .ok (.goto (-27), 3) := by decide +kernel
theorem dX5_isTrue_64 : decode cX5_isTrue 64 = .ok (.aload_n 0, 1) := by decide +kernel
theorem dX5_isTrue_65 : decode cX5_isTrue 65 = .ok (.getfield 34, 3) := by decide +kernel
theorem dX5_isTrue_68 : decode cX5_isTrue 68 = .ok (.iconst 0, 1) := by decide +kernel
theorem dX5_isTrue_69 : decode cX5_isTrue 69 = .ok (.iaload, 1) := by decide +kernel
theorem dX5_isTrue_70 : decode cX5_isTrue 70 = .ok (.ifCond .eq 7, 3) := by decide +kernel
theorem dX5_isTrue_73 : decode cX5_isTrue 73 = .ok (.iconst 1, 1) := by decide +kernel
theorem dX5_isTrue_74 : decode cX5_isTrue 74 = .ok (.goto 4, 3) := by decide +kernel
theorem dX5_isTrue_77 : decode cX5_isTrue 77 = .ok (.iconst 0, 1) := by decide +kernel
theorem dX5_isTrue_78 : decode cX5_isTrue 78 = .ok (.ireturn, 1) := by decide +kernel
set_option maxRecDepth 20000 in
theorem kb_48_0 : ∀ q ∈ tb_48_0, s_atx 48 yX5_isTrue cX5_isTrue q.1 q.2 := (List.forall_mem_cons.mpr ⟨⟨s_ldIn dX5_isTrue_0 rfl, s_mo_ldI _ _⟩, (List.forall_mem_cons.mpr ⟨⟨s_ifne dX5_isTrue_1 (by decide), s_mo_ifne _ _⟩, (List.forall_mem_cons.mpr ⟨⟨s_iconst dX5_isTrue_4 (by decide +kernel), s_mo_push _ _⟩, (List.forall_mem_cons.mpr ⟨⟨s_goto dX5_isTrue_5 (by decide), s_mo_goto _⟩, (List.forall_mem_cons.mpr ⟨⟨s_ldAn dX5_isTrue_8 rfl, s_mo_ldA _ _⟩, (List.forall_mem_cons.mpr ⟨⟨s_getf (ci := 2) (k := 3) rfl (by decide) inX5 w_170 dX5_isTrue_9, s_mo_getf _ _ _⟩, (List.forall_mem_cons.mpr ⟨⟨s_ldIn dX5_isTrue_12 rfl, s_mo_ldI _ _⟩, (List.forall_mem_cons.mpr ⟨⟨s_iconst dX5_isTrue_13 (by decide +kernel), s_mo_push _ _⟩, (List.forall_mem_cons.mpr ⟨⟨s_isub dX5_isTrue_14, s_mo_bin _ _⟩, (List.forall_mem_cons.mpr ⟨⟨s_iald dX5_isTrue_15, s_mo_iald _⟩, (List.forall_mem_cons.mpr ⟨⟨s_stIn dX5_isTrue_16 rfl, s_mo_stI _ _⟩, (List.forall_mem_cons.mpr ⟨⟨s_ldIn dX5_isTrue_17 rfl, s_mo_ldI _ _⟩, (List.forall_mem_cons.mpr ⟨⟨s_ldAn dX5_isTrue_18 rfl, s_mo_ldA _ _⟩, (List.forall_mem_cons.mpr ⟨⟨s_getf (ci := 2) (k := 3) rfl (by decide) inX5 w_170 dX5_isTrue_19, s_mo_getf _ _ _⟩, (List.forall_mem_cons.mpr ⟨⟨s_ldIn dX5_isTrue_22 rfl, s_mo_ldI _ _⟩, (List.forall_mem_cons.mpr ⟨⟨s_iald dX5_isTrue_23, s_mo_iald _⟩, (List.forall_mem_cons.mpr ⟨⟨s_icne dX5_isTrue_24 (by decide), s_mo_icne _ _⟩, (List.forall_mem_cons.mpr ⟨⟨s_iconst dX5_isTrue_27 (by decide +kernel), s_mo_push _ _⟩, (List.forall_mem_cons.mpr ⟨s_r2 mk_48 dX5_isTrue_28, (List.forall_mem_cons.mpr ⟨⟨s_iconst dX5_isTrue_29 (by decide +kernel), s_mo_push _ _⟩, (List.forall_mem_cons.mpr ⟨⟨s_stIn dX5_isTrue_30 rfl, s_mo_stI _ _⟩, (List.forall_mem_cons.mpr ⟨⟨s_ldIn dX5_isTrue_31 rfl, s_mo_ldI _ _⟩, (List.forall_mem_cons.mpr ⟨⟨s_stI dX5_isTrue_32, s_mo_stI _ _⟩, (List.forall_mem_cons.mpr ⟨⟨s_ldI dX5_isTrue_34, s_mo_ldI _ _⟩, (List.forall_mem_cons.mpr ⟨⟨s_ldAn dX5_isTrue_36 rfl, s_mo_ldA _ _⟩, (List.forall_mem_cons.mpr ⟨⟨s_getf (ci := 2) (k := 3) rfl (by decide) inX5 w_170 dX5_isTrue_37, s_mo_getf _ _ _⟩, (List.forall_mem_cons.mpr ⟨⟨s_ldIn dX5_isTrue_40 rfl, s_mo_ldI _ _⟩, (List.forall_mem_cons.mpr ⟨⟨s_iald dX5_isTrue_41, s_mo_iald _⟩, (List.forall_mem_cons.mpr ⟨⟨s_icge dX5_isTrue_42 (by decide), s_mo_icge _ _⟩, (List.forall_mem_cons.mpr ⟨⟨s_ldAn dX5_isTrue_45 rfl, s_mo_ldA _ _⟩, (List.forall_mem_cons.mpr ⟨⟨s_ldAn dX5_isTrue_46 rfl, s_mo_ldA _ _⟩, (List.forall_mem_cons.mpr ⟨⟨s_getf (ci := 2) (k := 4) rfl (by decide) inX5 w_171 dX5_isTrue_47, s_mo_getf _ _ _⟩, (List.forall_mem_cons.mpr ⟨⟨s_ldI dX5_isTrue_50, s_mo_ldI _ _⟩, (List.forall_mem_cons.mpr ⟨⟨s_iald dX5_isTrue_52, s_mo_iald _⟩, (List.forall_mem_cons.mpr ⟨⟨s_ldIn dX5_isTrue_53 rfl, s_mo_ldI _ _⟩, (List.forall_mem_cons.mpr ⟨⟨s_sV mk_48 mk_49 ok_49 (by decide +kernel) dX5_isTrue_54 w_926 w_928 wp_12 (Or.inr ⟨2, _, _, rfl, rfl⟩), s_h0 mk_48⟩, (List.forall_mem_cons.mpr ⟨⟨s_stIn dX5_isTrue_57 rfl, s_mo_stI _ _⟩, (List.forall_mem_cons.mpr ⟨⟨s_inc dX5_isTrue_58 (by decide +kernel), s_mo_inc _ _ _⟩, (List.forall_mem_cons.mpr ⟨⟨s_goto dX5_isTrue_61 (by decide), s_mo_goto _⟩, (fun _ h => absurd h List.not_mem_nil)⟩)⟩)⟩)⟩)⟩)⟩)⟩)⟩)⟩)⟩)⟩)⟩)⟩)⟩)⟩)⟩)⟩)⟩)⟩)⟩)⟩)⟩)⟩)⟩)⟩)⟩)⟩)⟩)⟩)⟩)⟩)⟩)⟩)⟩)⟩)⟩)⟩)⟩)⟩)
set_option maxRecDepth 20000 in
theorem kb_48_1 : ∀ q ∈ tb_48_1, s_atx 48 yX5_isTrue cX5_isTrue q.1 q.2 := (List.forall_mem_cons.mpr ⟨⟨s_ldAn dX5_isTrue_64 rfl, s_mo_ldA _ _⟩, (List.forall_mem_cons.mpr ⟨⟨s_getf (ci := 2) (k := 7) rfl (by decide) inX5 w_174 dX5_isTrue_65, s_mo_getf _ _ _⟩, (List.forall_mem_cons.mpr ⟨⟨s_iconst dX5_isTrue_68 (by decide +kernel), s_mo_push _ _⟩, (List.forall_mem_cons.mpr ⟨⟨s_iald dX5_isTrue_69, s_mo_iald _⟩, (List.forall_mem_cons.mpr ⟨⟨s_ifeq dX5_isTrue_70 (by decide), s_mo_ifeq _ _⟩, (List.forall_mem_cons.mpr ⟨⟨s_iconst dX5_isTrue_73 (by decide +kernel), s_mo_push _ _⟩, (List.forall_mem_cons.mpr ⟨⟨s_goto dX5_isTrue_74 (by decide), s_mo_goto _⟩, (List.forall_mem_cons.mpr ⟨⟨s_iconst dX5_isTrue_77 (by decide +kernel), s_mo_push _ _⟩, (List.forall_mem_cons.mpr ⟨s_r2 mk_48 dX5_isTrue_78, (fun _ h => absurd h List.not_mem_nil)⟩)⟩)⟩)⟩)⟩)⟩)⟩)⟩)⟩)
theorem km_48 : ∀ t ∈ tm_48, s_tok 48 t := (List.forall_mem_cons.mpr ⟨s_lift mk_48 kb_48_0, (List.forall_mem_cons.mpr ⟨s_lift mk_48 kb_48_1, (fun _ h => absurd h List.not_mem_nil)⟩)⟩)
theorem dX5_apply_0 : decode cX5_apply 0 = .ok (.iload_n 1, 1) := by decide +kernel
theorem dX5_apply_1 : decode cX5_apply 1 = .ok (.sipush 2000, 3) := by decide +kernel
theorem dX5_apply_4 : decode cX5_apply 4 = .ok (.if_icmp .ge 43, 3) := by decide +kernel
theorem dX5_apply_7 : decode cX5_apply 7 = .ok (.iload_n 2, 1) := by decide +kernel
theorem dX5_apply_8 : decode cX5_apply 8 = .ok (.aload_n 0, 1) := by decide +kernel
theorem dX5_apply_9 : decode cX5_apply 9 = .ok (.getfield 34, 3) := by decide +kernel
theorem dX5_apply_12 : decode cX5_apply 12 = .ok (.arraylength, 1) := by decide +kernel
theorem dX5_apply_13 : decode cX5_apply 13 = .ok (.if_icmp .ge 30, 3) := by decide +kernel
theorem dX5_apply_16 : decode cX5_apply 16 = .ok (.aload_n 0, 1) := by decide +kernel
theorem dX5_apply_17 : decode cX5_apply 17 = .ok (.getfield 34, 3) := by decide +kernel
theorem dX5_apply_20 : decode cX5_apply 20 = .ok (.iload_n 2, 1) := by decide +kernel
theorem dX5_apply_21 : decode cX5_apply 21 = .ok (.iload_n 1, 1) := by decide +kernel
theorem dX5_apply_22 : decode cX5_apply 22 = .ok (.sipush 1000, 3) := by decide +kernel
theorem dX5_apply_25 : decode cX5_apply 25 = .ok (.if_icmp .ge 7, 3) := by decide +kernel
theorem dX5_apply_28 : decode cX5_apply 28 = .ok (.iload_n 1, 1) := by decide +kernel
theorem dX5_apply_29 : decode cX5_apply 29 = .ok (.goto 13, 3) := by decide +kernel
theorem dX5_apply_32 : decode cX5_apply 32 = .ok (.aload_n 0, 1) := by decide +kernel
theorem dX5_apply_33 : decode cX5_apply 33 = .ok (.getfield 31, 3) := by decide +kernel
theorem dX5_apply_36 : decode cX5_apply 36 = .ok (.iload_n 1, 1) := by decide +kernel
theorem dX5_apply_37 : decode cX5_apply 37 = .ok (.sipush 1000, 3) := by decide +kernel
theorem dX5_apply_40 : decode cX5_apply 40 = .ok (.isub, 1) := by decide +kernel
theorem dX5_apply_41 : decode cX5_apply 41 = .ok (.iaload, 1) := by decide +kernel
theorem dX5_apply_42 : decode cX5_apply 42 = .ok (.iastore, 1) := by decide +kernel
theorem dX5_apply_43 : decode cX5_apply 43 = .ok (.iload_n 2, 1) := by decide +kernel
theorem dX5_apply_44 : decode cX5_apply 44 = .ok (.iconst 1, 1) := by decide +kernel
theorem dX5_apply_45 : decode cX5_apply 45 = .ok (.iadd, 1) := by decide +kernel
theorem dX5_apply_46 : decode cX5_apply 46 = .ok (.ireturn, 1) := by decide +kernel
theorem dX5_apply_47 : decode cX5_apply 47 = .ok (.iload_n 2, 1) := by decide +kernel
theorem dX5_apply_48 : decode cX5_apply 48 = .ok (.aload_n 0, 1) := by decide +kernel
theorem dX5_apply_49 : decode cX5_apply 49 = .ok (.getfield 34, 3) := by decide +kernel
theorem dX5_apply_52 : decode cX5_apply 52 = .ok (.arraylength, 1) := by decide +kernel
theorem dX5_apply_53 : decode cX5_apply 53 = .ok (.if_icmp .le 5, 3) := by decide +kernel
theorem dX5_apply_56 : decode cX5_apply 56 = .ok (.iload_n 2, 1) := by decide +kernel
theorem dX5_apply_57 : decode cX5_apply 57 = .ok (.ireturn, 1) := by decide +kernel
theorem dX5_apply_58 : decode cX5_apply 58 = .ok (.iload_n 1, 1) := by decide +kernel
theorem dX5_apply_59 : decode cX5_apply 59 = .ok (.sipush 2005, 3) := by decide +kernel
theorem dX5_apply_62 : decode cX5_apply 62 = .ok (.if_icmp .ne 28, 3) := by decide +kernel
theorem dX5_apply_65 : decode cX5_apply 65 = .ok (.iload_n 2, 1) := by decide +kernel
theorem dX5_apply_66 : decode cX5_apply 66 = .ok (.iconst 1, 1) := by decide +kernel
theorem dX5_apply_67 : decode cX5_apply 67 = .ok (.if_icmp .lt 21, 3) := by decide +kernel
theorem dX5_apply_70 : decode cX5_apply 70 = .ok (.aload_n 0, 1) := by decide +kernel
theorem dX5_apply_71 : decode cX5_apply 71 = .ok (.getfield 34, 3) := by decide +kernel
theorem dX5_apply_74 : decode cX5_apply 74 = .ok (.iload_n 2, 1) := by decide +kernel
theorem dX5_apply_75 : decode cX5_apply 75 = .ok (.iconst 1, 1) := by decide +kernel
theorem dX5_apply_76 : decode cX5_apply 76 = .ok (.isub, 1) := by decide +kernel
theorem dX5_apply_77 : decode cX5_apply 77 = .ok (.iconst 1, 1) := by decide +kernel
theorem dX5_apply_78 : decode cX5_apply 78 = .ok (.aload_n 0, 1) := by decide +kernel
theorem dX5_apply_79 : decode cX5_apply 79 = .ok (.getfield 34, 3) := by decide +kernel
theorem dX5_apply_82 : decode cX5_apply 82 = .ok (.iload_n 2, 1) := by decide +kernel
theorem dX5_apply_83 : decode cX5_apply 83 = .ok (.iconst 1, 1) := by decide +kernel
theorem dX5_apply_84 : decode cX5_apply 84 = .ok (.isub, 1) := by decide +kernel
theorem dX5_apply_85 : decode cX5_apply 85 = .ok (.iaload, 1) := by decide +kernel
theorem dX5_apply_86 : decode cX5_apply 86 = .ok (.isub, 1) := by decide +kernel
theorem dX5_apply_87 : decode cX5_apply 87 = .ok (.iastore, 1) := by decide +kernel
theorem dX5_apply_88 : decode cX5_apply 88 = .ok (.iload_n 2, 1) := by decide +kernel
theorem dX5_apply_89 : decode cX5_apply 89 = .ok (.ireturn, 1) := by decide +kernel
theorem dX5_apply_90 : decode cX5_apply 90 = .ok (.iload_n 2, 1) := by decide +kernel
theorem dX5_apply_91 : decode cX5_apply 91 = .ok (.iconst 2, 1) := by decide +kernel
theorem dX5_apply_92 : decode cX5_apply 92 = .ok (.if_icmp .lt 31, 3) := by decide +kernel
theorem dX5_apply_95 : decode cX5_apply 95 = .ok (.aload_n 0, 1) := by decide +kernel
theorem dX5_apply_96 : decode cX5_apply 96 = .ok (.getfield 34, 3) := by decide +kernel
theorem dX5_apply_99 : decode cX5_apply 99 = .ok (.iload_n 2, 1) := by decide +kernel
theorem dX5_apply_100 : decode cX5_apply 100 = .ok (.iconst 2, 1) := by decide +kernel
theorem dX5_apply_101 : decode cX5_apply 101 = .ok (.isub, 1) := by decide +kernel
theorem dX5_apply_102 : decode cX5_apply 102 = .ok (.iload_n 1, 1) := by decide +kernel
theorem dX5_apply_103 : decode cX5_apply 103 = .ok (.aload_n 0, 1) := by decide +kernel
theorem dX5_apply_104 : decode cX5_apply 104 = .ok (.getfield 34, 3) := by decide +kernel
theorem dX5_apply_107 : decode cX5_apply 107 = .ok (.iload_n 2, 1) := by decide +kernel
theorem dX5_apply_108 : decode cX5_apply 108 = .ok (.iconst 2, 1) := by decide +kernel
theorem dX5_apply_109 : decode cX5_apply 109 = .ok (.isub, 1) := by decide +kernel
theorem dX5_apply_110 : decode cX5_apply 110 = .ok (.iaload, 1) := by decide +kernel
theorem dX5_apply_111 : decode cX5_apply 111 = .ok (.aload_n 0, 1) := by decide +kernel
theorem dX5_apply_112 : decode cX5_apply 112 = .ok (.getfield 34, 3) := by decide +kernel
theorem dX5_apply_115 : decode cX5_apply 115 = .ok (.iload_n 2, 1) := by decide +kernel
theorem dX5_apply_116 : decode cX5_apply 116 = .ok (.iconst 1, 1) := by decide +kernel
theorem dX5_apply_117 : decode cX5_apply 117 = .ok (.isub, 1) := by decide +kernel
theorem dX5_apply_118 : decode cX5_apply 118 = .ok (.iaload, 1) := by decide +kernel
theorem dX5_apply_119 : decode cX5_apply 119 = .ok (.invokestatic 79, 3) := by decide +kernel
theorem dX5_apply_122 : decode cX5_apply 122 = .ok (.iastore, 1) := by decide +kernel
theorem dX5_apply_123 : decode cX5_apply 123 = .ok (.iload_n 2, 1) := by decide +kernel
theorem dX5_apply_124 : decode cX5_apply 124 = .ok (.iconst 1, 1) := by decide +kernel
theorem dX5_apply_125 : decode cX5_apply 125 = .ok (.isub, 1) := by decide +kernel
theorem dX5_apply_126 : decode cX5_apply 126 = .ok (.ireturn, 1) := by decide +kernel
set_option maxRecDepth 20000 in
theorem kb_49_0 : ∀ q ∈ tb_49_0, s_atx 49 yX5_apply cX5_apply q.1 q.2 := (List.forall_mem_cons.mpr ⟨⟨s_ldIn dX5_apply_0 rfl, s_mo_ldI _ _⟩, (List.forall_mem_cons.mpr ⟨⟨s_sipush dX5_apply_1 (by decide +kernel), s_mo_push _ _⟩, (List.forall_mem_cons.mpr ⟨⟨s_icge dX5_apply_4 (by decide), s_mo_icge _ _⟩, (List.forall_mem_cons.mpr ⟨⟨s_ldIn dX5_apply_7 rfl, s_mo_ldI _ _⟩, (List.forall_mem_cons.mpr ⟨⟨s_ldAn dX5_apply_8 rfl, s_mo_ldA _ _⟩, (List.forall_mem_cons.mpr ⟨⟨s_getf (ci := 2) (k := 7) rfl (by decide) inX5 w_174 dX5_apply_9, s_mo_getf _ _ _⟩, (List.forall_mem_cons.mpr ⟨⟨s_alen dX5_apply_12, s_mo_alen _⟩, (List.forall_mem_cons.mpr ⟨⟨s_icge dX5_apply_13 (by decide), s_mo_icge _ _⟩, (List.forall_mem_cons.mpr ⟨⟨s_ldAn dX5_apply_16 rfl, s_mo_ldA _ _⟩, (List.forall_mem_cons.mpr ⟨⟨s_getf (ci := 2) (k := 7) rfl (by decide) inX5 w_174 dX5_apply_17, s_mo_getf _ _ _⟩, (List.forall_mem_cons.mpr ⟨⟨s_ldIn dX5_apply_20 rfl, s_mo_ldI _ _⟩, (List.forall_mem_cons.mpr ⟨⟨s_ldIn dX5_apply_21 rfl, s_mo_ldI _ _⟩, (List.forall_mem_cons.mpr ⟨⟨s_sipush dX5_apply_22 (by decide +kernel), s_mo_push _ _⟩, (List.forall_mem_cons.mpr ⟨⟨s_icge dX5_apply_25 (by decide), s_mo_icge _ _⟩, (List.forall_mem_cons.mpr ⟨⟨s_ldIn dX5_apply_28 rfl, s_mo_ldI _ _⟩, (List.forall_mem_cons.mpr ⟨⟨s_goto dX5_apply_29 (by decide), s_mo_goto _⟩, (List.forall_mem_cons.mpr ⟨⟨s_ldAn dX5_apply_32 rfl, s_mo_ldA _ _⟩, (List.forall_mem_cons.mpr ⟨⟨s_getf (ci := 2) (k := 6) rfl (by decide) inX5 w_173 dX5_apply_33, s_mo_getf _ _ _⟩, (List.forall_mem_cons.mpr ⟨⟨s_ldIn dX5_apply_36 rfl, s_mo_ldI _ _⟩, (List.forall_mem_cons.mpr ⟨⟨s_sipush dX5_apply_37 (by decide +kernel), s_mo_push _ _⟩, (List.forall_mem_cons.mpr ⟨⟨s_isub dX5_apply_40, s_mo_bin _ _⟩, (List.forall_mem_cons.mpr ⟨⟨s_iald dX5_apply_41, s_mo_iald _⟩, (List.forall_mem_cons.mpr ⟨⟨s_iast dX5_apply_42, s_mo_iast _⟩, (List.forall_mem_cons.mpr ⟨⟨s_ldIn dX5_apply_43 rfl, s_mo_ldI _ _⟩, (List.forall_mem_cons.mpr ⟨⟨s_iconst dX5_apply_44 (by decide +kernel), s_mo_push _ _⟩, (List.forall_mem_cons.mpr ⟨⟨s_iadd dX5_apply_45, s_mo_bin _ _⟩, (List.forall_mem_cons.mpr ⟨s_r1 mk_49 dX5_apply_46, (List.forall_mem_cons.mpr ⟨⟨s_ldIn dX5_apply_47 rfl, s_mo_ldI _ _⟩, (List.forall_mem_cons.mpr ⟨⟨s_ldAn dX5_apply_48 rfl, s_mo_ldA _ _⟩, (List.forall_mem_cons.mpr ⟨⟨s_getf (ci := 2) (k := 7) rfl (by decide) inX5 w_174 dX5_apply_49, s_mo_getf _ _ _⟩, (List.forall_mem_cons.mpr ⟨⟨s_alen dX5_apply_52, s_mo_alen _⟩, (List.forall_mem_cons.mpr ⟨⟨s_icle dX5_apply_53 (by decide), s_mo_icle _ _⟩, (List.forall_mem_cons.mpr ⟨⟨s_ldIn dX5_apply_56 rfl, s_mo_ldI _ _⟩, (List.forall_mem_cons.mpr ⟨s_r1 mk_49 dX5_apply_57, (List.forall_mem_cons.mpr ⟨⟨s_ldIn dX5_apply_58 rfl, s_mo_ldI _ _⟩, (List.forall_mem_cons.mpr ⟨⟨s_sipush dX5_apply_59 (by decide +kernel), s_mo_push _ _⟩, (List.forall_mem_cons.mpr ⟨⟨s_icne dX5_apply_62 (by decide), s_mo_icne _ _⟩, (fun _ h => absurd h List.not_mem_nil)⟩)⟩)⟩)⟩)⟩)⟩)⟩)⟩)⟩)⟩)⟩)⟩)⟩)⟩)⟩)⟩)⟩)⟩)⟩)⟩)⟩)⟩)⟩)⟩)⟩)⟩)⟩)⟩)⟩)⟩)⟩)⟩)⟩)⟩)⟩)⟩)⟩)
set_option maxRecDepth 20000 in
theorem kb_49_1 : ∀ q ∈ tb_49_1, s_atx 49 yX5_apply cX5_apply q.1 q.2 := (List.forall_mem_cons.mpr ⟨⟨s_ldIn dX5_apply_65 rfl, s_mo_ldI _ _⟩, (List.forall_mem_cons.mpr ⟨⟨s_iconst dX5_apply_66 (by decide +kernel), s_mo_push _ _⟩, (List.forall_mem_cons.mpr ⟨⟨s_iclt dX5_apply_67 (by decide), s_mo_iclt _ _⟩, (List.forall_mem_cons.mpr ⟨⟨s_ldAn dX5_apply_70 rfl, s_mo_ldA _ _⟩, (List.forall_mem_cons.mpr ⟨⟨s_getf (ci := 2) (k := 7) rfl (by decide) inX5 w_174 dX5_apply_71, s_mo_getf _ _ _⟩, (List.forall_mem_cons.mpr ⟨⟨s_ldIn dX5_apply_74 rfl, s_mo_ldI _ _⟩, (List.forall_mem_cons.mpr ⟨⟨s_iconst dX5_apply_75 (by decide +kernel), s_mo_push _ _⟩, (List.forall_mem_cons.mpr ⟨⟨s_isub dX5_apply_76, s_mo_bin _ _⟩, (List.forall_mem_cons.mpr ⟨⟨s_iconst dX5_apply_77 (by decide +kernel), s_mo_push _ _⟩, (List.forall_mem_cons.mpr ⟨⟨s_ldAn dX5_apply_78 rfl, s_mo_ldA _ _⟩, (List.forall_mem_cons.mpr ⟨⟨s_getf (ci := 2) (k := 7) rfl (by decide) inX5 w_174 dX5_apply_79, s_mo_getf _ _ _⟩, (List.forall_mem_cons.mpr ⟨⟨s_ldIn dX5_apply_82 rfl, s_mo_ldI _ _⟩, (List.forall_mem_cons.mpr ⟨⟨s_iconst dX5_apply_83 (by decide +kernel), s_mo_push _ _⟩, (List.forall_mem_cons.mpr ⟨⟨s_isub dX5_apply_84, s_mo_bin _ _⟩, (List.forall_mem_cons.mpr ⟨⟨s_iald dX5_apply_85, s_mo_iald _⟩, (List.forall_mem_cons.mpr ⟨⟨s_isub dX5_apply_86, s_mo_bin _ _⟩, (List.forall_mem_cons.mpr ⟨⟨s_iast dX5_apply_87, s_mo_iast _⟩, (List.forall_mem_cons.mpr ⟨⟨s_ldIn dX5_apply_88 rfl, s_mo_ldI _ _⟩, (List.forall_mem_cons.mpr ⟨s_r1 mk_49 dX5_apply_89, (List.forall_mem_cons.mpr ⟨⟨s_ldIn dX5_apply_90 rfl, s_mo_ldI _ _⟩, (List.forall_mem_cons.mpr ⟨⟨s_iconst dX5_apply_91 (by decide +kernel), s_mo_push _ _⟩, (List.forall_mem_cons.mpr ⟨⟨s_iclt dX5_apply_92 (by decide), s_mo_iclt _ _⟩, (List.forall_mem_cons.mpr ⟨⟨s_ldAn dX5_apply_95 rfl, s_mo_ldA _ _⟩, (List.forall_mem_cons.mpr ⟨⟨s_getf (ci := 2) (k := 7) rfl (by decide) inX5 w_174 dX5_apply_96, s_mo_getf _ _ _⟩, (List.forall_mem_cons.mpr ⟨⟨s_ldIn dX5_apply_99 rfl, s_mo_ldI _ _⟩, (List.forall_mem_cons.mpr ⟨⟨s_iconst dX5_apply_100 (by decide +kernel), s_mo_push _ _⟩, (List.forall_mem_cons.mpr ⟨⟨s_isub dX5_apply_101, s_mo_bin _ _⟩, (List.forall_mem_cons.mpr ⟨⟨s_ldIn dX5_apply_102 rfl, s_mo_ldI _ _⟩, (List.forall_mem_cons.mpr ⟨⟨s_ldAn dX5_apply_103 rfl, s_mo_ldA _ _⟩, (List.forall_mem_cons.mpr ⟨⟨s_getf (ci := 2) (k := 7) rfl (by decide) inX5 w_174 dX5_apply_104, s_mo_getf _ _ _⟩, (List.forall_mem_cons.mpr ⟨⟨s_ldIn dX5_apply_107 rfl, s_mo_ldI _ _⟩, (List.forall_mem_cons.mpr ⟨⟨s_iconst dX5_apply_108 (by decide +kernel), s_mo_push _ _⟩, (List.forall_mem_cons.mpr ⟨⟨s_isub dX5_apply_109, s_mo_bin _ _⟩, (List.forall_mem_cons.mpr ⟨⟨s_iald dX5_apply_110, s_mo_iald _⟩, (List.forall_mem_cons.mpr ⟨⟨s_ldAn dX5_apply_111 rfl, s_mo_ldA _ _⟩, (List.forall_mem_cons.mpr ⟨⟨s_getf (ci := 2) (k := 7) rfl (by decide) inX5 w_174 dX5_apply_112, s_mo_getf _ _ _⟩, (List.forall_mem_cons.mpr ⟨⟨s_ldIn dX5_apply_115 rfl, s_mo_ldI _ _⟩, (List.forall_mem_cons.mpr ⟨⟨s_iconst dX5_apply_116 (by decide +kernel), s_mo_push _ _⟩, (List.forall_mem_cons.mpr ⟨⟨s_isub dX5_apply_117, s_mo_bin _ _⟩, (List.forall_mem_cons.mpr ⟨⟨s_iald dX5_apply_118, s_mo_iald _⟩, (List.forall_mem_cons.mpr ⟨⟨s_sS mk_49 mk_50 ok_50 (by decide +kernel) dX5_apply_119 w_930 w_931, s_h0 mk_49⟩, (List.forall_mem_cons.mpr ⟨⟨s_iast dX5_apply_122, s_mo_iast _⟩, (List.forall_mem_cons.mpr ⟨⟨s_ldIn dX5_apply_123 rfl, s_mo_ldI _ _⟩, (List.forall_mem_cons.mpr ⟨⟨s_iconst dX5_apply_124 (by decide +kernel), s_mo_push _ _⟩, (List.forall_mem_cons.mpr ⟨⟨s_isub dX5_apply_125, s_mo_bin _ _⟩, (List.forall_mem_cons.mpr ⟨s_r1 mk_49 dX5_apply_126, (fun _ h => absurd h List.not_mem_nil)⟩)⟩)⟩)⟩)⟩)⟩)⟩)⟩)⟩)⟩)⟩)⟩)⟩)⟩)⟩)⟩)⟩)⟩)⟩)⟩)⟩)⟩)⟩)⟩)⟩)⟩)⟩)⟩)⟩)⟩)⟩)⟩)⟩)⟩)⟩)⟩)⟩)⟩)⟩)⟩)⟩)⟩)⟩)⟩)⟩)⟩)
theorem km_49 : ∀ t ∈ tm_49, s_tok 49 t := (List.forall_mem_cons.mpr ⟨s_lift mk_49 kb_49_0, (List.forall_mem_cons.mpr ⟨s_lift mk_49 kb_49_1, (fun _ h => absurd h List.not_mem_nil)⟩)⟩)
theorem dX5_join_0 : decode cX5_join 0 = .ok (.iload_n 0, 1) := by decide +kernel
theorem dX5_join_1 : decode cX5_join 1 = .ok (.tableswitch 61 2000 2003 #[31, 35, 46, 57], 31) := by decide +kernel
theorem dX5_join_32 : decode cX5_join 32 = .ok (.iload_n 1, 1) := by decide +kernel
theorem dX5_join_33 : decode cX5_join 33 = .ok (.iload_n 2, 1) := by decide +kernel
theorem dX5_join_34 : decode cX5_join 34 = .ok (.iadd, 1) := by decide +kernel
theorem dX5_join_35 : decode cX5_join 35 = .ok (.ireturn, 1) := by decide +kernel
theorem dX5_join_36 : decode cX5_join 36 = .ok (.iload_n 1, 1) := by decide +kernel
theorem dX5_join_37 : decode cX5_join 37 = .ok (.iload_n 2, 1) := by decide +kernel
theorem dX5_join_38 : decode cX5_join 38 = .ok (.if_icmp .ge 7, 3) := by decide +kernel
theorem dX5_join_41 : decode cX5_join 41 = .ok (.iconst 1, 1) := by decide +kernel
theorem dX5_join_42 : decode cX5_join 42 = .ok (.goto 4, 3) := by decide +kernel
theorem dX5_join_45 : decode cX5_join 45 = .ok (.iconst 0, 1) := by decide +kernel
theorem dX5_join_46 : decode cX5_join 46 = .ok (.ireturn, 1) := by decide +kernel
theorem dX5_join_47 : decode cX5_join 47 = .ok (.iload_n 1, 1) := by decide +kernel
theorem dX5_join_48 : decode cX5_join 48 = .ok (.iload_n 2, 1) := by decide +kernel
theorem dX5_join_49 : decode cX5_join 49 = .ok (.if_icmp .le 7, 3) := by decide +kernel
theorem dX5_join_52 : decode cX5_join 52 = .ok (.iconst 1, 1) := by decide +kernel
theorem dX5_join_53 : decode cX5_join 53 = .ok (.goto 4, 3) := by decide +kernel
theorem dX5_join_56 : decode cX5_join 56 = .ok (.iconst 0, 1) := by decide +kernel
theorem dX5_join_57 : decode cX5_join 57 = .ok (.ireturn, 1) := by decide +kernel
theorem dX5_join_58 : decode cX5_join 58 = .ok (.iload_n 1, 1) := by decide +kernel
theorem dX5_join_59 : decode cX5_join 59 = .ok (.iload_n 2, 1) := by decide +kernel
theorem dX5_join_60 : decode cX5_join 60 = .ok (.iand, 1) := by decide +kernel
theorem dX5_join_61 : decode cX5_join 61 = .ok (.ireturn, 1) := by decide +kernel
theorem dX5_join_62 : decode cX5_join 62 = .ok (.iload_n 1, 1) := by decide +kernel
theorem dX5_join_63 : decode cX5_join 63 = .ok (.iload_n 2, 1) := by decide +kernel
theorem dX5_join_64 : decode cX5_join 64 = .ok (.ior, 1) := by decide +kernel
theorem dX5_join_65 : decode cX5_join 65 = .ok (.ireturn, 1) := by decide +kernel
set_option maxRecDepth 20000 in
theorem kb_50_0 : ∀ q ∈ tb_50_0, s_atx 50 yX5_join cX5_join q.1 q.2 := (List.forall_mem_cons.mpr ⟨⟨s_ldIn dX5_join_0 rfl, s_mo_ldI _ _⟩, (List.forall_mem_cons.mpr ⟨⟨s_table dX5_join_1 (by decide) (by decide) (by decide +kernel), s_mo_table _ _ _⟩, (List.forall_mem_cons.mpr ⟨⟨s_ldIn dX5_join_32 rfl, s_mo_ldI _ _⟩, (List.forall_mem_cons.mpr ⟨⟨s_ldIn dX5_join_33 rfl, s_mo_ldI _ _⟩, (List.forall_mem_cons.mpr ⟨⟨s_iadd dX5_join_34, s_mo_bin _ _⟩, (List.forall_mem_cons.mpr ⟨s_r1 mk_50 dX5_join_35, (List.forall_mem_cons.mpr ⟨⟨s_ldIn dX5_join_36 rfl, s_mo_ldI _ _⟩, (List.forall_mem_cons.mpr ⟨⟨s_ldIn dX5_join_37 rfl, s_mo_ldI _ _⟩, (List.forall_mem_cons.mpr ⟨⟨s_icge dX5_join_38 (by decide), s_mo_icge _ _⟩, (List.forall_mem_cons.mpr ⟨⟨s_iconst dX5_join_41 (by decide +kernel), s_mo_push _ _⟩, (List.forall_mem_cons.mpr ⟨⟨s_goto dX5_join_42 (by decide), s_mo_goto _⟩, (List.forall_mem_cons.mpr ⟨⟨s_iconst dX5_join_45 (by decide +kernel), s_mo_push _ _⟩, (List.forall_mem_cons.mpr ⟨s_r1 mk_50 dX5_join_46, (List.forall_mem_cons.mpr ⟨⟨s_ldIn dX5_join_47 rfl, s_mo_ldI _ _⟩, (List.forall_mem_cons.mpr ⟨⟨s_ldIn dX5_join_48 rfl, s_mo_ldI _ _⟩, (List.forall_mem_cons.mpr ⟨⟨s_icle dX5_join_49 (by decide), s_mo_icle _ _⟩, (List.forall_mem_cons.mpr ⟨⟨s_iconst dX5_join_52 (by decide +kernel), s_mo_push _ _⟩, (List.forall_mem_cons.mpr ⟨⟨s_goto dX5_join_53 (by decide), s_mo_goto _⟩, (List.forall_mem_cons.mpr ⟨⟨s_iconst dX5_join_56 (by decide +kernel), s_mo_push _ _⟩, (List.forall_mem_cons.mpr ⟨s_r1 mk_50 dX5_join_57, (List.forall_mem_cons.mpr ⟨⟨s_ldIn dX5_join_58 rfl, s_mo_ldI _ _⟩, (List.forall_mem_cons.mpr ⟨⟨s_ldIn dX5_join_59 rfl, s_mo_ldI _ _⟩, (List.forall_mem_cons.mpr ⟨⟨s_iand dX5_join_60, s_mo_bin _ _⟩, (List.forall_mem_cons.mpr ⟨s_r1 mk_50 dX5_join_61, (List.forall_mem_cons.mpr ⟨⟨s_ldIn dX5_join_62 rfl, s_mo_ldI _ _⟩, (List.forall_mem_cons.mpr ⟨⟨s_ldIn dX5_join_63 rfl, s_mo_ldI _ _⟩, (fun _ h => absurd h List.not_mem_nil)⟩)⟩)⟩)⟩)⟩)⟩)⟩)⟩)⟩)⟩)⟩)⟩)⟩)⟩)⟩)⟩)⟩)⟩)⟩)⟩)⟩)⟩)⟩)⟩)⟩)⟩)
set_option maxRecDepth 20000 in
theorem kb_50_1 : ∀ q ∈ tb_50_1, s_atx 50 yX5_join cX5_join q.1 q.2 := (List.forall_mem_cons.mpr ⟨⟨s_ior dX5_join_64, s_mo_bin _ _⟩, (List.forall_mem_cons.mpr ⟨s_r1 mk_50 dX5_join_65, (fun _ h => absurd h List.not_mem_nil)⟩)⟩)
theorem km_50 : ∀ t ∈ tm_50, s_tok 50 t := (List.forall_mem_cons.mpr ⟨s_lift mk_50 kb_50_0, (List.forall_mem_cons.mpr ⟨s_lift mk_50 kb_50_1, (fun _ h => absurd h List.not_mem_nil)⟩)⟩)
theorem dX5_read_0 : decode cX5_read 0 = .ok (.aload_n 0, 1) := by decide +kernel
theorem dX5_read_1 : decode cX5_read 1 = .ok (.iconst 0, 1) := by decide +kernel
theorem dX5_read_2 : decode cX5_read 2 = .ok (.putfield 9, 3) := by decide +kernel
theorem dX5_read_5 : decode cX5_read 5 = .ok (.aload_n 0, 1) := by decide +kernel
theorem dX5_read_6 : decode cX5_read 6 = .ok (.iconst 0, 1) := by decide +kernel
theorem dX5_read_7 : decode cX5_read 7 = .ok (.putfield 28, 3) := by decide +kernel
theorem dX5_read_10 : decode cX5_read 10 = .ok (.aload_n 1, 1) := by decide +kernel
theorem dX5_read_11 : decode cX5_read 11 = .ok (.invokevirtual 83, 3) := by decide +kernel
theorem dX5_read_14 : decode cX5_read 14 = .ok (.ifCond .eq 5, 3) := by decide +kernel
theorem dX5_read_17 : decode cX5_read 17 = .ok (.iconst 1, 1) := by decide +kernel
theorem dX5_read_18 : decode cX5_read 18 = .ok (.ireturn, 1) := by decide +kernel
theorem dX5_read_19 : decode cX5_read 19 = .ok (.iconst 0, 1) := by decide +kernel
theorem dX5_read_20 : decode cX5_read 20 = .ok (.istore_n 2, 1) := by decide +kernel
theorem dX5_read_21 : decode cX5_read 21 = .ok (.iload_n 2, 1) := by decide +kernel
theorem dX5_read_22 : decode cX5_read 22 = .ok (.bipush 12, 2) := by decide +kernel
theorem dX5_read_24 : decode cX5_read 24 = .ok (.if_icmp .ge 53, 3) := by decide +kernel
theorem dX5_read_27 : decode cX5_read 27 = .ok (.aload_n 0, 1) := by decide +kernel
theorem dX5_read_28 : decode cX5_read 28 = .ok (.aload_n 1, 1) := by decide +kernel
theorem dX5_read_29 : decode cX5_read 29 = .ok (.iload_n 2, 1) := by decide +kernel
theorem dX5_read_30 : decode cX5_read 30 = .ok (.invokevirtual 89, 3) := by decide +kernel
theorem dX5_read_33 : decode cX5_read 33 = .ok (.ifCond .ne 5, 3) := by decide +kernel
theorem dX5_read_36 : decode cX5_read 36 = .ok (.iconst 0, 1) := by decide +kernel
theorem dX5_read_37 : decode cX5_read 37 = .ok (.ireturn, 1) := by decide +kernel
theorem dX5_read_38 : decode cX5_read 38 = .ok (.aload_n 0, 1) := by decide +kernel
theorem dX5_read_39 : decode cX5_read 39 = .ok (.dup, 1) := by decide +kernel
theorem dX5_read_40 : decode cX5_read 40 = .ok (.getfield 9, 3) := by decide +kernel
theorem dX5_read_43 : decode cX5_read 43 = .ok (.iconst 1, 1) := by decide +kernel
theorem dX5_read_44 : decode cX5_read 44 = .ok (.iadd, 1) := by decide +kernel
theorem dX5_read_45 : decode cX5_read 45 = .ok (.putfield 9, 3) := by decide +kernel
theorem dX5_read_48 : decode cX5_read 48 = .ok (.aload_n 1, 1) := by decide +kernel
theorem dX5_read_49 : decode cX5_read 49 = .ok (.invokevirtual 83, 3) := by decide +kernel
theorem dX5_read_52 : decode cX5_read 52 = .ok (.ifCond .eq 5, 3) := by decide +kernel
theorem dX5_read_55 : decode cX5_read 55 = .ok (.iconst 1, 1) := by decide +kernel
theorem dX5_read_56 : decode cX5_read 56 = .ok (.ireturn, 1) := by decide +kernel
theorem dX5_read_57 : decode cX5_read 57 = .ok (.aload_n 1, 1) := by decide +kernel
theorem dX5_read_58 : decode cX5_read 58 = .ok (.bipush 59, 2) := by decide +kernel
theorem dX5_read_60 : decode cX5_read 60 = .ok (.invokevirtual 93, 3) := by decide +kernel
theorem dX5_read_63 : decode cX5_read 63 = .ok (.ifCond .ne 8, 3) := by decide +kernel
theorem dX5_read_66 : decode cX5_read 66 = .ok (.aload_n 1, 1) := by decide +kernel
theorem dX5_read_67 : decode cX5_read 67 = .ok (.invokevirtual 97, 3) := by decide +kernel
theorem dX5_read_70 : decode cX5_read 70 = .ok (.ireturn, 1) := by decide +kernel
theorem dX5_read_71 : decode cX5_read 71 = .ok (.iinc 2 1, 3) := by decide +kernel
theorem dX5_read_74 : decode cX5_read 74 = .ok (.goto (-53), 3) := by decide +kernel
theorem dX5_read_77 : decode cX5_read 77 = .ok (.aload_n 1, 1) := by decide +kernel
theorem dX5_read_78 : decode cX5_read 78 = .ok (.invokevirtual 97, 3) := by decide +kernel
theorem dX5_read_81 : decode cX5_read 81 = .ok (.ireturn, 1) := by decide +kernel
set_option maxRecDepth 20000 in
theorem kb_51_0 : ∀ q ∈ tb_51_0, s_atx 51 yX5_read cX5_read q.1 q.2 := (List.forall_mem_cons.mpr ⟨⟨s_ldAn dX5_read_0 rfl, s_mo_ldA _ _⟩, (List.forall_mem_cons.mpr ⟨⟨s_iconst dX5_read_1 (by decide +kernel), s_mo_push _ _⟩, (List.forall_mem_cons.mpr ⟨⟨s_putI (ci := 2) (k := 0) rfl (by decide) inX5 tyX5_ok nmX5 rfl rfl w_166 dX5_read_2, s_mo_putI _ _ _⟩, (List.forall_mem_cons.mpr ⟨⟨s_ldAn dX5_read_5 rfl, s_mo_ldA _ _⟩, (List.forall_mem_cons.mpr ⟨⟨s_iconst dX5_read_6 (by decide +kernel), s_mo_push _ _⟩, (List.forall_mem_cons.mpr ⟨⟨s_putI (ci := 2) (k := 5) rfl (by decide) inX5 tyX5_ok nmX5 rfl rfl w_172 dX5_read_7, s_mo_putI _ _ _⟩, (List.forall_mem_cons.mpr ⟨⟨s_ldAn dX5_read_10 rfl, s_mo_ldA _ _⟩, (List.forall_mem_cons.mpr ⟨⟨s_sV mk_51 mk_80 ok_80 (by decide +kernel) dX5_read_11 w_710 w_504 w_505 (Or.inr ⟨5, _, _, rfl, rfl⟩), s_h0 mk_51⟩, (List.forall_mem_cons.mpr ⟨⟨s_ifeq dX5_read_14 (by decide), s_mo_ifeq _ _⟩, (List.forall_mem_cons.mpr ⟨⟨s_iconst dX5_read_17 (by decide +kernel), s_mo_push _ _⟩, (List.forall_mem_cons.mpr ⟨s_r2 mk_51 dX5_read_18, (List.forall_mem_cons.mpr ⟨⟨s_iconst dX5_read_19 (by decide +kernel), s_mo_push _ _⟩, (List.forall_mem_cons.mpr ⟨⟨s_stIn dX5_read_20 rfl, s_mo_stI _ _⟩, (List.forall_mem_cons.mpr ⟨⟨s_ldIn dX5_read_21 rfl, s_mo_ldI _ _⟩, (List.forall_mem_cons.mpr ⟨⟨s_bipush dX5_read_22 (by decide +kernel), s_mo_push _ _⟩, (List.forall_mem_cons.mpr ⟨⟨s_icge dX5_read_24 (by decide), s_mo_icge _ _⟩, (List.forall_mem_cons.mpr ⟨⟨s_ldAn dX5_read_27 rfl, s_mo_ldA _ _⟩, (List.forall_mem_cons.mpr ⟨⟨s_ldAn dX5_read_28 rfl, s_mo_ldA _ _⟩, (List.forall_mem_cons.mpr ⟨⟨s_ldIn dX5_read_29 rfl, s_mo_ldI _ _⟩, (List.forall_mem_cons.mpr ⟨⟨s_sV mk_51 mk_52 ok_52 (by decide +kernel) dX5_read_30 w_711 w_713 wp_4 (Or.inr ⟨2, _, _, rfl, rfl⟩), s_h0 mk_51⟩, (List.forall_mem_cons.mpr ⟨⟨s_ifne dX5_read_33 (by decide), s_mo_ifne _ _⟩, (List.forall_mem_cons.mpr ⟨⟨s_iconst dX5_read_36 (by decide +kernel), s_mo_push _ _⟩, (List.forall_mem_cons.mpr ⟨s_r2 mk_51 dX5_read_37, (List.forall_mem_cons.mpr ⟨⟨s_ldAn dX5_read_38 rfl, s_mo_ldA _ _⟩, (List.forall_mem_cons.mpr ⟨⟨s_dup dX5_read_39, s_mo_dup _⟩, (List.forall_mem_cons.mpr ⟨⟨s_getf (ci := 2) (k := 0) rfl (by decide) inX5 w_166 dX5_read_40, s_mo_getf _ _ _⟩, (List.forall_mem_cons.mpr ⟨⟨s_iconst dX5_read_43 (by decide +kernel), s_mo_push _ _⟩, (List.forall_mem_cons.mpr ⟨⟨s_iadd dX5_read_44, s_mo_bin _ _⟩, (List.forall_mem_cons.mpr ⟨⟨s_putI (ci := 2) (k := 0) rfl (by decide) inX5 tyX5_ok nmX5 rfl rfl w_166 dX5_read_45, s_mo_putI _ _ _⟩, (List.forall_mem_cons.mpr ⟨⟨s_ldAn dX5_read_48 rfl, s_mo_ldA _ _⟩, (List.forall_mem_cons.mpr ⟨⟨s_sV mk_51 mk_80 ok_80 (by decide +kernel) dX5_read_49 w_710 w_504 w_505 (Or.inr ⟨5, _, _, rfl, rfl⟩), s_h0 mk_51⟩, (List.forall_mem_cons.mpr ⟨⟨s_ifeq dX5_read_52 (by decide), s_mo_ifeq _ _⟩, (List.forall_mem_cons.mpr ⟨⟨s_iconst dX5_read_55 (by decide +kernel), s_mo_push _ _⟩, (List.forall_mem_cons.mpr ⟨s_r2 mk_51 dX5_read_56, (List.forall_mem_cons.mpr ⟨⟨s_ldAn dX5_read_57 rfl, s_mo_ldA _ _⟩, (List.forall_mem_cons.mpr ⟨⟨s_bipush dX5_read_58 (by decide +kernel), s_mo_push _ _⟩, (List.forall_mem_cons.mpr ⟨⟨s_sV mk_51 mk_81 ok_81 (by decide +kernel) dX5_read_60 w_736 w_613 w_614 (Or.inr ⟨5, _, _, rfl, rfl⟩), s_h0 mk_51⟩, (List.forall_mem_cons.mpr ⟨⟨s_ifne dX5_read_63 (by decide), s_mo_ifne _ _⟩, (fun _ h => absurd h List.not_mem_nil)⟩)⟩)⟩)⟩)⟩)⟩)⟩)⟩)⟩)⟩)⟩)⟩)⟩)⟩)⟩)⟩)⟩)⟩)⟩)⟩)⟩)⟩)⟩)⟩)⟩)⟩)⟩)⟩)⟩)⟩)⟩)⟩)⟩)⟩)⟩)⟩)⟩)⟩)
set_option maxRecDepth 20000 in
theorem kb_51_1 : ∀ q ∈ tb_51_1, s_atx 51 yX5_read cX5_read q.1 q.2 := (List.forall_mem_cons.mpr ⟨⟨s_ldAn dX5_read_66 rfl, s_mo_ldA _ _⟩, (List.forall_mem_cons.mpr ⟨⟨s_sV mk_51 mk_84 ok_84 (by decide +kernel) dX5_read_67 w_720 w_604 w_605 (Or.inr ⟨5, _, _, rfl, rfl⟩), s_h0 mk_51⟩, (List.forall_mem_cons.mpr ⟨s_r2 mk_51 dX5_read_70, (List.forall_mem_cons.mpr ⟨⟨s_inc dX5_read_71 (by decide +kernel), s_mo_inc _ _ _⟩, (List.forall_mem_cons.mpr ⟨⟨s_goto dX5_read_74 (by decide), s_mo_goto _⟩, (List.forall_mem_cons.mpr ⟨⟨s_ldAn dX5_read_77 rfl, s_mo_ldA _ _⟩, (List.forall_mem_cons.mpr ⟨⟨s_sV mk_51 mk_84 ok_84 (by decide +kernel) dX5_read_78 w_720 w_604 w_605 (Or.inr ⟨5, _, _, rfl, rfl⟩), s_h0 mk_51⟩, (List.forall_mem_cons.mpr ⟨s_r2 mk_51 dX5_read_81, (fun _ h => absurd h List.not_mem_nil)⟩)⟩)⟩)⟩)⟩)⟩)⟩)⟩)
theorem km_51 : ∀ t ∈ tm_51, s_tok 51 t := (List.forall_mem_cons.mpr ⟨s_lift mk_51 kb_51_0, (List.forall_mem_cons.mpr ⟨s_lift mk_51 kb_51_1, (fun _ h => absurd h List.not_mem_nil)⟩)⟩)
theorem dX5_readLine_0 : decode cX5_readLine 0 = .ok (.aload_n 0, 1) := by decide +kernel
theorem dX5_readLine_1 : decode cX5_readLine 1 = .ok (.getfield 19, 3) := by decide +kernel
theorem dX5_readLine_4 : decode cX5_readLine 4 = .ok (.iload_n 2, 1) := by decide +kernel
theorem dX5_readLine_5 : decode cX5_readLine 5 = .ok (.iconst 0, 1) := by decide +kernel
theorem dX5_readLine_6 : decode cX5_readLine 6 = .ok (.iastore, 1) := by decide +kernel
theorem dX5_readLine_7 : decode cX5_readLine 7 = .ok (.aload_n 1, 1) := by decide +kernel
theorem dX5_readLine_8 : decode cX5_readLine 8 = .ok (.ldc 100, 2) := by decide +kernel
theorem dX5_readLine_10 : decode cX5_readLine 10 = .ok (.invokevirtual 102, 3) := by decide +kernel
theorem dX5_readLine_13 : decode cX5_readLine 13 = .ok (.ifCond .eq 13, 3) := by decide +kernel
theorem dX5_readLine_16 : decode cX5_readLine 16 = .ok (.aload_n 0, 1) := by decide +kernel
theorem dX5_readLine_17 : decode cX5_readLine 17 = .ok (.getfield 15, 3) := by decide +kernel
theorem dX5_readLine_20 : decode cX5_readLine 20 = .ok (.iload_n 2, 1) := by decide +kernel
theorem dX5_readLine_21 : decode cX5_readLine 21 = .ok (.iconst 0, 1) := by decide +kernel
theorem dX5_readLine_22 : decode cX5_readLine 22 = .ok (.iastore, 1) := by decide +kernel
theorem dX5_readLine_23 : decode cX5_readLine 23 = .ok (.goto 60, 3) := by decide +kernel
theorem dX5_readLine_26 : decode cX5_readLine 26 = .ok (.aload_n 1, 1) := by decide +kernel
theorem dX5_readLine_27 : decode cX5_readLine 27 = .ok (.ldc 106, 2) := by decide +kernel
theorem dX5_readLine_29 : decode cX5_readLine 29 = .ok (.invokevirtual 102, 3) := by decide +kernel
theorem dX5_readLine_32 : decode cX5_readLine 32 = .ok (.ifCond .eq 13, 3) := by decide +kernel
theorem dX5_readLine_35 : decode cX5_readLine 35 = .ok (.aload_n 0, 1) := by decide +kernel
theorem dX5_readLine_36 : decode cX5_readLine 36 = .ok (.getfield 15, 3) := by decide +kernel
theorem dX5_readLine_39 : decode cX5_readLine 39 = .ok (.iload_n 2, 1) := by decide +kernel
theorem dX5_readLine_40 : decode cX5_readLine 40 = .ok (.iconst 1, 1) := by decide +kernel
theorem dX5_readLine_41 : decode cX5_readLine 41 = .ok (.iastore, 1) := by decide +kernel
theorem dX5_readLine_42 : decode cX5_readLine 42 = .ok (.goto 41, 3) := by decide +kernel
theorem dX5_readLine_45 : decode cX5_readLine 45 = .ok (.aload_n 1, 1) := by decide +kernel
theorem dX5_readLine_46 : decode cX5_readLine 46 = .ok (.ldc 108, 2) := by decide +kernel
theorem dX5_readLine_48 : decode cX5_readLine 48 = .ok (.invokevirtual 102, 3) := by decide +kernel
theorem dX5_readLine_51 : decode cX5_readLine 51 = .ok (.ifCond .eq 27, 3) := by decide +kernel
theorem dX5_readLine_54 : decode cX5_readLine 54 = .ok (.aload_n 0, 1) := by decide +kernel
theorem dX5_readLine_55 : decode cX5_readLine 55 = .ok (.getfield 15, 3) := by decide +kernel
theorem dX5_readLine_58 : decode cX5_readLine 58 = .ok (.iload_n 2, 1) := by decide +kernel
theorem dX5_readLine_59 : decode cX5_readLine 59 = .ok (.iconst 2, 1) := by decide +kernel
theorem dX5_readLine_60 : decode cX5_readLine 60 = .ok (.iastore, 1) := by decide +kernel
theorem dX5_readLine_61 : decode cX5_readLine 61 = .ok (.aload_n 0, 1) := by decide +kernel
theorem dX5_readLine_62 : decode cX5_readLine 62 = .ok (.getfield 19, 3) := by decide +kernel
theorem dX5_readLine_65 : decode cX5_readLine 65 = .ok (.iload_n 2, 1) := by decide +kernel
theorem dX5_readLine_66 : decode cX5_readLine 66 = .ok (.aload_n 1, 1) := by decide +kernel
theorem dX5_readLine_67 : decode cX5_readLine 67 = .ok (.iconst 0, 1) := by decide +kernel
theorem dX5_readLine_68 : decode cX5_readLine 68 = .ok (.sipush 999, 3) := by decide +kernel
theorem dX5_readLine_71 : decode cX5_readLine 71 = .ok (.invokevirtual 110, 3) := by decide +kernel
theorem dX5_readLine_74 : decode cX5_readLine 74 = .ok (.iastore, 1) := by decide +kernel
theorem dX5_readLine_75 : decode cX5_readLine 75 = .ok (.goto 8, 3) := by decide +kernel
theorem dX5_readLine_78 : decode cX5_readLine 78 = .ok (.aload_n 1, 1) := by decide +kernel
theorem dX5_readLine_79 : decode cX5_readLine 79 = .ok (.invokevirtual 97, 3) := by decide +kernel
theorem dX5_readLine_82 : decode cX5_readLine 82 = .ok (.ireturn, 1) := by decide +kernel
theorem dX5_readLine_83 : decode cX5_readLine 83 = .ok (.aload_n 0, 1) := by decide +kernel
theorem dX5_readLine_84 : decode cX5_readLine 84 = .ok (.getfield 19, 3) := by decide +kernel
theorem dX5_readLine_87 : decode cX5_readLine 87 = .ok (.iload_n 2, 1) := by decide +kernel
theorem dX5_readLine_88 : decode cX5_readLine 88 = .ok (.iaload, 1) := by decide +kernel
theorem dX5_readLine_89 : decode cX5_readLine 89 = .ok (.iconst (-1), 1) := by decide +kernel
theorem dX5_readLine_90 : decode cX5_readLine 90 = .ok (.if_icmp .ne 5, 3) := by decide +kernel
theorem dX5_readLine_93 : decode cX5_readLine 93 = .ok (.iconst 0, 1) := by decide +kernel
theorem dX5_readLine_94 : decode cX5_readLine 94 = .ok (.ireturn, 1) := by decide +kernel
theorem dX5_readLine_95 : decode cX5_readLine 95 = .ok (.aload_n 1, 1) := by decide +kernel
theorem dX5_readLine_96 : decode cX5_readLine 96 = .ok (.ldc 113, 2) := by decide +kernel
theorem dX5_readLine_98 : decode cX5_readLine 98 = .ok (.invokevirtual 102, 3) := by decide +kernel
theorem dX5_readLine_101 : decode cX5_readLine 101 = .ok (.ifCond .eq 14, 3) := by decide +kernel
theorem dX5_readLine_104 : decode cX5_readLine 104 = .ok (.aload_n 0, 1) := by decide +kernel
theorem dX5_readLine_105 : decode cX5_readLine 105 = .ok (.aload_n 1, 1) := by decide +kernel
theorem dX5_readLine_106 : decode cX5_readLine 106 = .ok (.iconst 0, 1) := by decide +kernel
theorem dX5_readLine_107 : decode cX5_readLine 107 = .ok (.invokevirtual 115, 3) := by decide +kernel
theorem dX5_readLine_110 : decode cX5_readLine 110 = .ok (.ifCond .ne 5, 3) := by decide +kernel
theorem dX5_readLine_113 : decode cX5_readLine 113 = .ok (.iconst 0, 1) := by decide +kernel
theorem dX5_readLine_114 : decode cX5_readLine 114 = .ok (.ireturn, 1) := by decide +kernel
theorem dX5_readLine_115 : decode cX5_readLine 115 = .ok (.aload_n 0, 1) := by decide +kernel
theorem dX5_readLine_116 : decode cX5_readLine 116 = .ok (.getfield 22, 3) := by decide +kernel
theorem dX5_readLine_119 : decode cX5_readLine 119 = .ok (.iload_n 2, 1) := by decide +kernel
theorem dX5_readLine_120 : decode cX5_readLine 120 = .ok (.aload_n 0, 1) := by decide +kernel
theorem dX5_readLine_121 : decode cX5_readLine 121 = .ok (.getfield 28, 3) := by decide +kernel
theorem dX5_readLine_124 : decode cX5_readLine 124 = .ok (.iastore, 1) := by decide +kernel
theorem dX5_readLine_125 : decode cX5_readLine 125 = .ok (.iconst 1, 1) := by decide +kernel
theorem dX5_readLine_126 : decode cX5_readLine 126 = .ok (.ireturn, 1) := by decide +kernel
set_option maxRecDepth 20000 in
theorem kb_52_0 : ∀ q ∈ tb_52_0, s_atx 52 yX5_readLine cX5_readLine q.1 q.2 := (List.forall_mem_cons.mpr ⟨⟨s_ldAn dX5_readLine_0 rfl, s_mo_ldA _ _⟩, (List.forall_mem_cons.mpr ⟨⟨s_getf (ci := 2) (k := 2) rfl (by decide) inX5 w_169 dX5_readLine_1, s_mo_getf _ _ _⟩, (List.forall_mem_cons.mpr ⟨⟨s_ldIn dX5_readLine_4 rfl, s_mo_ldI _ _⟩, (List.forall_mem_cons.mpr ⟨⟨s_iconst dX5_readLine_5 (by decide +kernel), s_mo_push _ _⟩, (List.forall_mem_cons.mpr ⟨⟨s_iast dX5_readLine_6, s_mo_iast _⟩, (List.forall_mem_cons.mpr ⟨⟨s_ldAn dX5_readLine_7 rfl, s_mo_ldA _ _⟩, (List.forall_mem_cons.mpr ⟨⟨s_ldcS (tx := "hide") (List.mem_of_getElem? (i := 10) rfl) dX5_readLine_8, s_mo_push _ _⟩, (List.forall_mem_cons.mpr ⟨⟨s_sV mk_52 mk_82 ok_82 (by decide +kernel) dX5_readLine_10 w_716 w_516 w_517 (Or.inr ⟨5, _, _, rfl, rfl⟩), s_h0 mk_52⟩, (List.forall_mem_cons.mpr ⟨⟨s_ifeq dX5_readLine_13 (by decide), s_mo_ifeq _ _⟩, (List.forall_mem_cons.mpr ⟨⟨s_ldAn dX5_readLine_16 rfl, s_mo_ldA _ _⟩, (List.forall_mem_cons.mpr ⟨⟨s_getf (ci := 2) (k := 1) rfl (by decide) inX5 w_168 dX5_readLine_17, s_mo_getf _ _ _⟩, (List.forall_mem_cons.mpr ⟨⟨s_ldIn dX5_readLine_20 rfl, s_mo_ldI _ _⟩, (List.forall_mem_cons.mpr ⟨⟨s_iconst dX5_readLine_21 (by decide +kernel), s_mo_push _ _⟩, (List.forall_mem_cons.mpr ⟨⟨s_iast dX5_readLine_22, s_mo_iast _⟩, (List.forall_mem_cons.mpr ⟨⟨s_goto dX5_readLine_23 (by decide), s_mo_goto _⟩, (List.forall_mem_cons.mpr ⟨⟨s_ldAn dX5_readLine_26 rfl, s_mo_ldA _ _⟩, (List.forall_mem_cons.mpr ⟨⟨s_ldcS (tx := "show") (List.mem_of_getElem? (i := 11) rfl) dX5_readLine_27, s_mo_push _ _⟩, (List.forall_mem_cons.mpr ⟨⟨s_sV mk_52 mk_82 ok_82 (by decide +kernel) dX5_readLine_29 w_716 w_516 w_517 (Or.inr ⟨5, _, _, rfl, rfl⟩), s_h0 mk_52⟩, (List.forall_mem_cons.mpr ⟨⟨s_ifeq dX5_readLine_32 (by decide), s_mo_ifeq _ _⟩, (List.forall_mem_cons.mpr ⟨⟨s_ldAn dX5_readLine_35 rfl, s_mo_ldA _ _⟩, (List.forall_mem_cons.mpr ⟨⟨s_getf (ci := 2) (k := 1) rfl (by decide) inX5 w_168 dX5_readLine_36, s_mo_getf _ _ _⟩, (List.forall_mem_cons.mpr ⟨⟨s_ldIn dX5_readLine_39 rfl, s_mo_ldI _ _⟩, (List.forall_mem_cons.mpr ⟨⟨s_iconst dX5_readLine_40 (by decide +kernel), s_mo_push _ _⟩, (List.forall_mem_cons.mpr ⟨⟨s_iast dX5_readLine_41, s_mo_iast _⟩, (List.forall_mem_cons.mpr ⟨⟨s_goto dX5_readLine_42 (by decide), s_mo_goto _⟩, (List.forall_mem_cons.mpr ⟨⟨s_ldAn dX5_readLine_45 rfl, s_mo_ldA _ _⟩, (List.forall_mem_cons.mpr ⟨⟨s_ldcS (tx := "fine") (List.mem_of_getElem? (i := 12) rfl) dX5_readLine_46, s_mo_push _ _⟩, (List.forall_mem_cons.mpr ⟨⟨s_sV mk_52 mk_82 ok_82 (by decide +kernel) dX5_readLine_48 w_716 w_516 w_517 (Or.inr ⟨5, _, _, rfl, rfl⟩), s_h0 mk_52⟩, (List.forall_mem_cons.mpr ⟨⟨s_ifeq dX5_readLine_51 (by decide), s_mo_ifeq _ _⟩, (List.forall_mem_cons.mpr ⟨⟨s_ldAn dX5_readLine_54 rfl, s_mo_ldA _ _⟩, (List.forall_mem_cons.mpr ⟨⟨s_getf (ci := 2) (k := 1) rfl (by decide) inX5 w_168 dX5_readLine_55, s_mo_getf _ _ _⟩, (List.forall_mem_cons.mpr ⟨⟨s_ldIn dX5_readLine_58 rfl, s_mo_ldI _ _⟩, (List.forall_mem_cons.mpr ⟨⟨s_iconst dX5_readLine_59 (by decide +kernel), s_mo_push _ _⟩, (List.forall_mem_cons.mpr ⟨⟨s_iast dX5_readLine_60, s_mo_iast _⟩, (List.forall_mem_cons.mpr ⟨⟨s_ldAn dX5_readLine_61 rfl, s_mo_ldA _ _⟩, (List.forall_mem_cons.mpr ⟨⟨s_getf (ci := 2) (k := 2) rfl (by decide) inX5 w_169 dX5_readLine_62, s_mo_getf _ _ _⟩, (fun _ h => absurd h List.not_mem_nil)⟩)⟩)⟩)⟩)⟩)⟩)⟩)⟩)⟩)⟩)⟩)⟩)⟩)⟩)⟩)⟩)⟩)⟩)⟩)⟩)⟩)⟩)⟩)⟩)⟩)⟩)⟩)⟩)⟩)⟩)⟩)⟩)⟩)⟩)⟩)⟩)
set_option maxRecDepth 20000 in
theorem kb_52_1 : ∀ q ∈ tb_52_1, s_atx 52 yX5_readLine cX5_readLine q.1 q.2 := (List.forall_mem_cons.mpr ⟨⟨s_ldIn dX5_readLine_65 rfl, s_mo_ldI _ _⟩, (List.forall_mem_cons.mpr ⟨⟨s_ldAn dX5_readLine_66 rfl, s_mo_ldA _ _⟩, (List.forall_mem_cons.mpr ⟨⟨s_iconst dX5_readLine_67 (by decide +kernel), s_mo_push _ _⟩, (List.forall_mem_cons.mpr ⟨⟨s_sipush dX5_readLine_68 (by decide +kernel), s_mo_push _ _⟩, (List.forall_mem_cons.mpr ⟨⟨s_sV mk_52 mk_83 ok_83 (by decide +kernel) dX5_readLine_71 w_719 w_575 w_576 (Or.inr ⟨5, _, _, rfl, rfl⟩), s_h0 mk_52⟩, (List.forall_mem_cons.mpr ⟨⟨s_iast dX5_readLine_74, s_mo_iast _⟩, (List.forall_mem_cons.mpr ⟨⟨s_goto dX5_readLine_75 (by decide), s_mo_goto _⟩, (List.forall_mem_cons.mpr ⟨⟨s_ldAn dX5_readLine_78 rfl, s_mo_ldA _ _⟩, (List.forall_mem_cons.mpr ⟨⟨s_sV mk_52 mk_84 ok_84 (by decide +kernel) dX5_readLine_79 w_720 w_604 w_605 (Or.inr ⟨5, _, _, rfl, rfl⟩), s_h0 mk_52⟩, (List.forall_mem_cons.mpr ⟨s_r2 mk_52 dX5_readLine_82, (List.forall_mem_cons.mpr ⟨⟨s_ldAn dX5_readLine_83 rfl, s_mo_ldA _ _⟩, (List.forall_mem_cons.mpr ⟨⟨s_getf (ci := 2) (k := 2) rfl (by decide) inX5 w_169 dX5_readLine_84, s_mo_getf _ _ _⟩, (List.forall_mem_cons.mpr ⟨⟨s_ldIn dX5_readLine_87 rfl, s_mo_ldI _ _⟩, (List.forall_mem_cons.mpr ⟨⟨s_iald dX5_readLine_88, s_mo_iald _⟩, (List.forall_mem_cons.mpr ⟨⟨s_iconst dX5_readLine_89 (by decide +kernel), s_mo_push _ _⟩, (List.forall_mem_cons.mpr ⟨⟨s_icne dX5_readLine_90 (by decide), s_mo_icne _ _⟩, (List.forall_mem_cons.mpr ⟨⟨s_iconst dX5_readLine_93 (by decide +kernel), s_mo_push _ _⟩, (List.forall_mem_cons.mpr ⟨s_r2 mk_52 dX5_readLine_94, (List.forall_mem_cons.mpr ⟨⟨s_ldAn dX5_readLine_95 rfl, s_mo_ldA _ _⟩, (List.forall_mem_cons.mpr ⟨⟨s_ldcS (tx := "if") (List.mem_of_getElem? (i := 13) rfl) dX5_readLine_96, s_mo_push _ _⟩, (List.forall_mem_cons.mpr ⟨⟨s_sV mk_52 mk_82 ok_82 (by decide +kernel) dX5_readLine_98 w_716 w_516 w_517 (Or.inr ⟨5, _, _, rfl, rfl⟩), s_h0 mk_52⟩, (List.forall_mem_cons.mpr ⟨⟨s_ifeq dX5_readLine_101 (by decide), s_mo_ifeq _ _⟩, (List.forall_mem_cons.mpr ⟨⟨s_ldAn dX5_readLine_104 rfl, s_mo_ldA _ _⟩, (List.forall_mem_cons.mpr ⟨⟨s_ldAn dX5_readLine_105 rfl, s_mo_ldA _ _⟩, (List.forall_mem_cons.mpr ⟨⟨s_iconst dX5_readLine_106 (by decide +kernel), s_mo_push _ _⟩, (List.forall_mem_cons.mpr ⟨⟨s_sV mk_52 mk_53 ok_53 (by decide +kernel) dX5_readLine_107 w_722 w_724 wp_5 (Or.inr ⟨2, _, _, rfl, rfl⟩), s_h0 mk_52⟩, (List.forall_mem_cons.mpr ⟨⟨s_ifne dX5_readLine_110 (by decide), s_mo_ifne _ _⟩, (List.forall_mem_cons.mpr ⟨⟨s_iconst dX5_readLine_113 (by decide +kernel), s_mo_push _ _⟩, (List.forall_mem_cons.mpr ⟨s_r2 mk_52 dX5_readLine_114, (List.forall_mem_cons.mpr ⟨⟨s_ldAn dX5_readLine_115 rfl, s_mo_ldA _ _⟩, (List.forall_mem_cons.mpr ⟨⟨s_getf (ci := 2) (k := 3) rfl (by decide) inX5 w_170 dX5_readLine_116, s_mo_getf _ _ _⟩, (List.forall_mem_cons.mpr ⟨⟨s_ldIn dX5_readLine_119 rfl, s_mo_ldI _ _⟩, (List.forall_mem_cons.mpr ⟨⟨s_ldAn dX5_readLine_120 rfl, s_mo_ldA _ _⟩, (List.forall_mem_cons.mpr ⟨⟨s_getf (ci := 2) (k := 5) rfl (by decide) inX5 w_172 dX5_readLine_121, s_mo_getf _ _ _⟩, (List.forall_mem_cons.mpr ⟨⟨s_iast dX5_readLine_124, s_mo_iast _⟩, (List.forall_mem_cons.mpr ⟨⟨s_iconst dX5_readLine_125 (by decide +kernel), s_mo_push _ _⟩, (List.forall_mem_cons.mpr ⟨s_r2 mk_52 dX5_readLine_126, (fun _ h => absurd h List.not_mem_nil)⟩)⟩)⟩)⟩)⟩)⟩)⟩)⟩)⟩)⟩)⟩)⟩)⟩)⟩)⟩)⟩)⟩)⟩)⟩)⟩)⟩)⟩)⟩)⟩)⟩)⟩)⟩)⟩)⟩)⟩)⟩)⟩)⟩)⟩)⟩)⟩)⟩)
theorem km_52 : ∀ t ∈ tm_52, s_tok 52 t := (List.forall_mem_cons.mpr ⟨s_lift mk_52 kb_52_0, (List.forall_mem_cons.mpr ⟨s_lift mk_52 kb_52_1, (fun _ h => absurd h List.not_mem_nil)⟩)⟩)
theorem dX5_readCondition_0 : decode cX5_readCondition 0 = .ok (.iconst 0, 1) := by decide +kernel
theorem dX5_readCondition_1 : decode cX5_readCondition 1 = .ok (.istore_n 3, 1) := by decide +kernel
theorem dX5_readCondition_2 : decode cX5_readCondition 2 = .ok (.iconst 0, 1) := by decide +kernel
theorem dX5_readCondition_3 : decode cX5_readCondition 3 = .ok (.istore 4, 2) := by decide +kernel
theorem dX5_readCondition_5 : decode cX5_readCondition 5 = .ok (.iconst 0, 1) := by decide +kernel
theorem dX5_readCondition_6 : decode cX5_readCondition 6 = .ok (.istore 5, 2) := by decide +kernel
theorem dX5_readCondition_8 : decode cX5_readCondition 8 = .ok (.iload 5, 2) := by decide +kernel
theorem dX5_readCondition_10 : decode cX5_readCondition 10 = .ok (.sipush 400, 3) := by decide +kernel
theorem dX5_readCondition_13 : decode cX5_readCondition 13 = .ok (.if_icmp .ge 74, 3) := by decide +kernel
theorem dX5_readCondition_16 : decode cX5_readCondition 16 = .ok (.aload_n 0, 1) := by decide +kernel
theorem dX5_readCondition_17 : decode cX5_readCondition 17 = .ok (.aload_n 1, 1) := by decide +kernel
theorem dX5_readCondition_18 : decode cX5_readCondition 18 = .ok (.iload_n 2, 1) := by decide +kernel
theorem dX5_readCondition_19 : decode cX5_readCondition 19 = .ok (.invokevirtual 118, 3) := by decide +kernel
theorem dX5_readCondition_22 : decode cX5_readCondition 22 = .ok (.ifCond .ne 5, 3) := by decide +kernel
theorem dX5_readCondition_25 : decode cX5_readCondition 25 = .ok (.iconst 0, 1) := by decide +kernel
theorem dX5_readCondition_26 : decode cX5_readCondition 26 = .ok (.ireturn, 1) := by decide +kernel
theorem dX5_readCondition_27 : decode cX5_readCondition 27 = .ok (.iload 4, 2) := by decide +kernel
theorem dX5_readCondition_29 : decode cX5_readCondition 29 = .ok (.ifCond .eq 11, 3) := by decide +kernel
theorem dX5_readCondition_32 : decode cX5_readCondition 32 = .ok (.aload_n 0, 1) := by decide +kernel
theorem dX5_readCondition_33 : decode cX5_readCondition 33 = .ok (.sipush 2003, 3) := by decide +kernel
theorem dX5_readCondition_36 : decode cX5_readCondition 36 = .ok (.invokevirtual 121, 3) := by decide +kernel
theorem dX5_readCondition_39 : decode cX5_readCondition 39 = .ok (.pop, 1) := by decide +kernel
theorem dX5_readCondition_40 : decode cX5_readCondition 40 = .ok (.aload_n 1, 1) := by decide +kernel
theorem dX5_readCondition_41 : decode cX5_readCondition 41 = .ok (.ldc 124, 2) := by decide +kernel
theorem dX5_readCondition_43 : decode cX5_readCondition 43 = .ok (.invokevirtual 102, 3) := by decide +kernel
theorem dX5_readCondition_46 : decode cX5_readCondition 46 = .ok (.istore 4, 2) := by decide +kernel
theorem dX5_readCondition_48 : decode cX5_readCondition 48 = .ok (.iload 4, 2) := by decide +kernel
theorem dX5_readCondition_50 : decode cX5_readCondition 50 = .ok (.ifCond .eq 6, 3) := by decide +kernel
theorem dX5_readCondition_53 : decode cX5_readCondition 53 = .ok (.goto 28, 3) := by decide +kernel
theorem dX5_readCondition_56 : decode cX5_readCondition 56 = .ok (.iload_n 3, 1) := by decide +kernel
theorem dX5_readCondition_57 : decode cX5_readCondition 57 = .ok (.ifCond .eq 11, 3) := by decide +kernel
theorem dX5_readCondition_60 : decode cX5_readCondition 60 = .ok (.aload_n 0, 1) := by decide +kernel
theorem dX5_readCondition_61 : decode cX5_readCondition 61 = .ok (.sipush 2004, 3) := by decide +kernel
theorem dX5_readCondition_64 : decode cX5_readCondition 64 = .ok (.invokevirtual 121, 3) := by decide +kernel
theorem dX5_readCondition_67 : decode cX5_readCondition 67 = .ok (.pop, 1) := by decide +kernel
theorem dX5_readCondition_68 : decode cX5_readCondition 68 = .ok (.aload_n 1, 1) := by decide +kernel
theorem dX5_readCondition_69 : decode cX5_readCondition 69 = .ok (.ldc 126, 2) := by decide +kernel
theorem dX5_readCondition_71 : decode cX5_readCondition 71 = .ok (.invokevirtual 102, 3) := by decide +kernel
theorem dX5_readCondition_74 : decode cX5_readCondition 74 = .ok (.istore_n 3, 1) := by decide +kernel
theorem dX5_readCondition_75 : decode cX5_readCondition 75 = .ok (.iload_n 3, 1) := by decide +kernel
theorem dX5_readCondition_76 : decode cX5_readCondition 76 = .ok (.ifCond .ne 5, 3) := by decide +kernel
theorem dX5_readCondition_79 : decode cX5_readCondition 79 = .ok (.iconst 1, 1) := by decide +kernel
theorem dX5_readCondition_80 : decode cX5_readCondition 80 = .ok (.ireturn, 1) := by decide +kernel
theorem dX5_readCondition_81 : decode cX5_readCondition 81 = .ok (.iinc 5 1, 3) := by decide +kernel
theorem dX5_readCondition_84 : decode cX5_readCondition 84 = .ok (.goto (-76), 3) := by decide +kernel
theorem dX5_readCondition_87 : decode cX5_readCondition 87 = .ok (.iconst 1, 1) := by decide +kernel
theorem dX5_readCondition_88 : decode cX5_readCondition 88 = .ok (.ireturn, 1) := by decide +kernel
set_option maxRecDepth 20000 in
theorem kb_53_0 : ∀ q ∈ tb_53_0, s_atx 53 yX5_readCondition cX5_readCondition q.1 q.2 := (List.forall_mem_cons.mpr ⟨⟨s_iconst dX5_readCondition_0 (by decide +kernel), s_mo_push _ _⟩, (List.forall_mem_cons.mpr ⟨⟨s_stIn dX5_readCondition_1 rfl, s_mo_stI _ _⟩, (List.forall_mem_cons.mpr ⟨⟨s_iconst dX5_readCondition_2 (by decide +kernel), s_mo_push _ _⟩, (List.forall_mem_cons.mpr ⟨⟨s_stI dX5_readCondition_3, s_mo_stI _ _⟩, (List.forall_mem_cons.mpr ⟨⟨s_iconst dX5_readCondition_5 (by decide +kernel), s_mo_push _ _⟩, (List.forall_mem_cons.mpr ⟨⟨s_stI dX5_readCondition_6, s_mo_stI _ _⟩, (List.forall_mem_cons.mpr ⟨⟨s_ldI dX5_readCondition_8, s_mo_ldI _ _⟩, (List.forall_mem_cons.mpr ⟨⟨s_sipush dX5_readCondition_10 (by decide +kernel), s_mo_push _ _⟩, (List.forall_mem_cons.mpr ⟨⟨s_icge dX5_readCondition_13 (by decide), s_mo_icge _ _⟩, (List.forall_mem_cons.mpr ⟨⟨s_ldAn dX5_readCondition_16 rfl, s_mo_ldA _ _⟩, (List.forall_mem_cons.mpr ⟨⟨s_ldAn dX5_readCondition_17 rfl, s_mo_ldA _ _⟩, (List.forall_mem_cons.mpr ⟨⟨s_ldIn dX5_readCondition_18 rfl, s_mo_ldI _ _⟩, (List.forall_mem_cons.mpr ⟨⟨s_sV mk_53 mk_54 ok_54 (by decide +kernel) dX5_readCondition_19 w_726 w_728 wp_6 (Or.inr ⟨2, _, _, rfl, rfl⟩), s_h0 mk_53⟩, (List.forall_mem_cons.mpr ⟨⟨s_ifne dX5_readCondition_22 (by decide), s_mo_ifne _ _⟩, (List.forall_mem_cons.mpr ⟨⟨s_iconst dX5_readCondition_25 (by decide +kernel), s_mo_push _ _⟩, (List.forall_mem_cons.mpr ⟨s_r2 mk_53 dX5_readCondition_26, (List.forall_mem_cons.mpr ⟨⟨s_ldI dX5_readCondition_27, s_mo_ldI _ _⟩, (List.forall_mem_cons.mpr ⟨⟨s_ifeq dX5_readCondition_29 (by decide), s_mo_ifeq _ _⟩, (List.forall_mem_cons.mpr ⟨⟨s_ldAn dX5_readCondition_32 rfl, s_mo_ldA _ _⟩, (List.forall_mem_cons.mpr ⟨⟨s_sipush dX5_readCondition_33 (by decide +kernel), s_mo_push _ _⟩, (List.forall_mem_cons.mpr ⟨⟨s_sV mk_53 mk_57 ok_57 (by decide +kernel) dX5_readCondition_36 w_732 w_734 wp_7 (Or.inr ⟨2, _, _, rfl, rfl⟩), s_h0 mk_53⟩, (List.forall_mem_cons.mpr ⟨⟨s_pop dX5_readCondition_39, s_mo_pop _⟩, (List.forall_mem_cons.mpr ⟨⟨s_ldAn dX5_readCondition_40 rfl, s_mo_ldA _ _⟩, (List.forall_mem_cons.mpr ⟨⟨s_ldcS (tx := "and") (List.mem_of_getElem? (i := 22) rfl) dX5_readCondition_41, s_mo_push _ _⟩, (List.forall_mem_cons.mpr ⟨⟨s_sV mk_53 mk_82 ok_82 (by decide +kernel) dX5_readCondition_43 w_716 w_516 w_517 (Or.inr ⟨5, _, _, rfl, rfl⟩), s_h0 mk_53⟩, (List.forall_mem_cons.mpr ⟨⟨s_stI dX5_readCondition_46, s_mo_stI _ _⟩, (List.forall_mem_cons.mpr ⟨⟨s_ldI dX5_readCondition_48, s_mo_ldI _ _⟩, (List.forall_mem_cons.mpr ⟨⟨s_ifeq dX5_readCondition_50 (by decide), s_mo_ifeq _ _⟩, (List.forall_mem_cons.mpr ⟨⟨s_goto dX5_readCondition_53 (by decide), s_mo_goto _⟩, (List.forall_mem_cons.mpr ⟨⟨s_ldIn dX5_readCondition_56 rfl, s_mo_ldI _ _⟩, (List.forall_mem_cons.mpr ⟨⟨s_ifeq dX5_readCondition_57 (by decide), s_mo_ifeq _ _⟩, (List.forall_mem_cons.mpr ⟨⟨s_ldAn dX5_readCondition_60 rfl, s_mo_ldA _ _⟩, (List.forall_mem_cons.mpr ⟨⟨s_sipush dX5_readCondition_61 (by decide +kernel), s_mo_push _ _⟩, (fun _ h => absurd h List.not_mem_nil)⟩)⟩)⟩)⟩)⟩)⟩)⟩)⟩)⟩)⟩)⟩)⟩)⟩)⟩)⟩)⟩)⟩)⟩)⟩)⟩)⟩)⟩)⟩)⟩)⟩)⟩)⟩)⟩)⟩)⟩)⟩)⟩)⟩)
set_option maxRecDepth 20000 in
theorem kb_53_1 : ∀ q ∈ tb_53_1, s_atx 53 yX5_readCondition cX5_readCondition q.1 q.2 := (List.forall_mem_cons.mpr ⟨⟨s_sV mk_53 mk_57 ok_57 (by decide +kernel) dX5_readCondition_64 w_732 w_734 wp_7 (Or.inr ⟨2, _, _, rfl, rfl⟩), s_h0 mk_53⟩, (List.forall_mem_cons.mpr ⟨⟨s_pop dX5_readCondition_67, s_mo_pop _⟩, (List.forall_mem_cons.mpr ⟨⟨s_ldAn dX5_readCondition_68 rfl, s_mo_ldA _ _⟩, (List.forall_mem_cons.mpr ⟨⟨s_ldcS (tx := "or") (List.mem_of_getElem? (i := 23) rfl) dX5_readCondition_69, s_mo_push _ _⟩, (List.forall_mem_cons.mpr ⟨⟨s_sV mk_53 mk_82 ok_82 (by decide +kernel) dX5_readCondition_71 w_716 w_516 w_517 (Or.inr ⟨5, _, _, rfl, rfl⟩), s_h0 mk_53⟩, (List.forall_mem_cons.mpr ⟨⟨s_stIn dX5_readCondition_74 rfl, s_mo_stI _ _⟩, (List.forall_mem_cons.mpr ⟨⟨s_ldIn dX5_readCondition_75 rfl, s_mo_ldI _ _⟩, (List.forall_mem_cons.mpr ⟨⟨s_ifne dX5_readCondition_76 (by decide), s_mo_ifne _ _⟩, (List.forall_mem_cons.mpr ⟨⟨s_iconst dX5_readCondition_79 (by decide +kernel), s_mo_push _ _⟩, (List.forall_mem_cons.mpr ⟨s_r2 mk_53 dX5_readCondition_80, (List.forall_mem_cons.mpr ⟨⟨s_inc dX5_readCondition_81 (by decide +kernel), s_mo_inc _ _ _⟩, (List.forall_mem_cons.mpr ⟨⟨s_goto dX5_readCondition_84 (by decide), s_mo_goto _⟩, (List.forall_mem_cons.mpr ⟨⟨s_iconst dX5_readCondition_87 (by decide +kernel), s_mo_push _ _⟩, (List.forall_mem_cons.mpr ⟨s_r2 mk_53 dX5_readCondition_88, (fun _ h => absurd h List.not_mem_nil)⟩)⟩)⟩)⟩)⟩)⟩)⟩)⟩)⟩)⟩)⟩)⟩)⟩)⟩)
theorem km_53 : ∀ t ∈ tm_53, s_tok 53 t := (List.forall_mem_cons.mpr ⟨s_lift mk_53 kb_53_0, (List.forall_mem_cons.mpr ⟨s_lift mk_53 kb_53_1, (fun _ h => absurd h List.not_mem_nil)⟩)⟩)
theorem dX5_readAtom_0 : decode cX5_readAtom 0 = .ok (.aload_n 1, 1) := by decide +kernel
theorem dX5_readAtom_1 : decode cX5_readAtom 1 = .ok (.ldc 128, 2) := by decide +kernel
theorem dX5_readAtom_3 : decode cX5_readAtom 3 = .ok (.invokevirtual 102, 3) := by decide +kernel
theorem dX5_readAtom_6 : decode cX5_readAtom 6 = .ok (.ifCond .eq 41, 3) := by decide +kernel
theorem dX5_readAtom_9 : decode cX5_readAtom 9 = .ok (.iload_n 2, 1) := by decide +kernel
theorem dX5_readAtom_10 : decode cX5_readAtom 10 = .ok (.bipush 6, 2) := by decide +kernel
theorem dX5_readAtom_12 : decode cX5_readAtom 12 = .ok (.if_icmp .lt 8, 3) := by decide +kernel
theorem dX5_readAtom_15 : decode cX5_readAtom 15 = .ok (.aload_n 1, 1) := by decide +kernel
theorem dX5_readAtom_16 : decode cX5_readAtom 16 = .ok (.invokevirtual 130, 3) := by decide +kernel
theorem dX5_readAtom_19 : decode cX5_readAtom 19 = .ok (.ireturn, 1) := by decide +kernel
theorem dX5_readAtom_20 : decode cX5_readAtom 20 = .ok (.aload_n 0, 1) := by decide +kernel
theorem dX5_readAtom_21 : decode cX5_readAtom 21 = .ok (.aload_n 1, 1) := by decide +kernel
theorem dX5_readAtom_22 : decode cX5_readAtom 22 = .ok (.iload_n 2, 1) := by decide +kernel
theorem dX5_readAtom_23 : decode cX5_readAtom 23 = .ok (.iconst 1, 1) := by decide +kernel
theorem dX5_readAtom_24 : decode cX5_readAtom 24 = .ok (.iadd, 1) := by decide +kernel
theorem dX5_readAtom_25 : decode cX5_readAtom 25 = .ok (.invokevirtual 118, 3) := by decide +kernel
theorem dX5_readAtom_28 : decode cX5_readAtom 28 = .ok (.ifCond .eq 17, 3) := by decide +kernel
theorem dX5_readAtom_31 : decode cX5_readAtom 31 = .ok (.aload_n 0, 1) := by decide +kernel
theorem dX5_readAtom_32 : decode cX5_readAtom 32 = .ok (.sipush 2005, 3) := by decide +kernel
theorem dX5_readAtom_35 : decode cX5_readAtom 35 = .ok (.invokevirtual 121, 3) := by decide +kernel
theorem dX5_readAtom_38 : decode cX5_readAtom 38 = .ok (.ifCond .eq 7, 3) := by decide +kernel
theorem dX5_readAtom_41 : decode cX5_readAtom 41 = .ok (.iconst 1, 1) := by decide +kernel
theorem dX5_readAtom_42 : decode cX5_readAtom 42 = .ok (.goto 4, 3) := by decide +kernel
theorem dX5_readAtom_45 : decode cX5_readAtom 45 = .ok (.iconst 0, 1) := by decide +kernel
theorem dX5_readAtom_46 : decode cX5_readAtom 46 = .ok (.ireturn, 1) := by decide +kernel
theorem dX5_readAtom_47 : decode cX5_readAtom 47 = .ok (.aload_n 1, 1) := by decide +kernel
theorem dX5_readAtom_48 : decode cX5_readAtom 48 = .ok (.bipush 40, 2) := by decide +kernel
theorem dX5_readAtom_50 : decode cX5_readAtom 50 = .ok (.invokevirtual 93, 3) := by decide +kernel
theorem dX5_readAtom_53 : decode cX5_readAtom 53 = .ok (.ifCond .eq 49, 3) := by decide +kernel
theorem dX5_readAtom_56 : decode cX5_readAtom 56 = .ok (.iload_n 2, 1) := by decide +kernel
theorem dX5_readAtom_57 : decode cX5_readAtom 57 = .ok (.bipush 6, 2) := by decide +kernel
theorem dX5_readAtom_59 : decode cX5_readAtom 59 = .ok (.if_icmp .lt 8, 3) := by decide +kernel
theorem dX5_readAtom_62 : decode cX5_readAtom 62 = .ok (.aload_n 1, 1) := by decide +kernel
theorem dX5_readAtom_63 : decode cX5_readAtom 63 = .ok (.invokevirtual 130, 3) := by decide +kernel
theorem dX5_readAtom_66 : decode cX5_readAtom 66 = .ok (.ireturn, 1) := by decide +kernel
theorem dX5_readAtom_67 : decode cX5_readAtom 67 = .ok (.aload_n 0, 1) := by decide +kernel
theorem dX5_readAtom_68 : decode cX5_readAtom 68 = .ok (.aload_n 1, 1) := by decide +kernel
theorem dX5_readAtom_69 : decode cX5_readAtom 69 = .ok (.iload_n 2, 1) := by decide +kernel
theorem dX5_readAtom_70 : decode cX5_readAtom 70 = .ok (.iconst 1, 1) := by decide +kernel
theorem dX5_readAtom_71 : decode cX5_readAtom 71 = .ok (.iadd, 1) := by decide +kernel
theorem dX5_readAtom_72 : decode cX5_readAtom 72 = .ok (.invokevirtual 115, 3) := by decide +kernel
theorem dX5_readAtom_75 : decode cX5_readAtom 75 = .ok (.ifCond .ne 5, 3) := by decide +kernel
theorem dX5_readAtom_78 : decode cX5_readAtom 78 = .ok (.iconst 0, 1) := by decide +kernel
theorem dX5_readAtom_79 : decode cX5_readAtom 79 = .ok (.ireturn, 1) := by decide +kernel
theorem dX5_readAtom_80 : decode cX5_readAtom 80 = .ok (.aload_n 1, 1) := by decide +kernel
theorem dX5_readAtom_81 : decode cX5_readAtom 81 = .ok (.bipush 41, 2) := by decide +kernel
theorem dX5_readAtom_83 : decode cX5_readAtom 83 = .ok (.invokevirtual 93, 3) := by decide +kernel
theorem dX5_readAtom_86 : decode cX5_readAtom 86 = .ok (.ifCond .ne 10, 3) := by decide +kernel
theorem dX5_readAtom_89 : decode cX5_readAtom 89 = .ok (.aload_n 1, 1) := by decide +kernel
theorem dX5_readAtom_90 : decode cX5_readAtom 90 = .ok (.invokevirtual 97, 3) := by decide +kernel
theorem dX5_readAtom_93 : decode cX5_readAtom 93 = .ok (.ifCond .eq 7, 3) := by decide +kernel
theorem dX5_readAtom_96 : decode cX5_readAtom 96 = .ok (.iconst 1, 1) := by decide +kernel
theorem dX5_readAtom_97 : decode cX5_readAtom 97 = .ok (.goto 4, 3) := by decide +kernel
theorem dX5_readAtom_100 : decode cX5_readAtom 100 = .ok (.iconst 0, 1) := by decide +kernel
theorem dX5_readAtom_101 : decode cX5_readAtom 101 = .ok (.ireturn, 1) := by decide +kernel
theorem dX5_readAtom_102 : decode cX5_readAtom 102 = .ok (.aload_n 0, 1) := by decide +kernel
theorem dX5_readAtom_103 : decode cX5_readAtom 103 = .ok (.aload_n 1, 1) := by decide +kernel
theorem dX5_readAtom_104 : decode cX5_readAtom 104 = .ok (.invokevirtual 133, 3) := by decide +kernel
theorem dX5_readAtom_107 : decode cX5_readAtom 107 = .ok (.ifCond .ne 5, 3) := by decide +kernel
theorem dX5_readAtom_110 : decode cX5_readAtom 110 = .ok (.iconst 0, 1) := by decide +kernel
theorem dX5_readAtom_111 : decode cX5_readAtom 111 = .ok (.ireturn, 1) := by decide +kernel
theorem dX5_readAtom_112 : decode cX5_readAtom 112 = .ok (.aload_n 1, 1) := by decide +kernel
theorem dX5_readAtom_113 : decode cX5_readAtom 113 = .ok (.bipush 60, 2) := by decide +kernel
theorem dX5_readAtom_115 : decode cX5_readAtom 115 = .ok (.invokevirtual 93, 3) := by decide +kernel
theorem dX5_readAtom_118 : decode cX5_readAtom 118 = .ok (.ifCond .eq 27, 3) := by decide +kernel
theorem dX5_readAtom_121 : decode cX5_readAtom 121 = .ok (.aload_n 0, 1) := by decide +kernel
theorem dX5_readAtom_122 : decode cX5_readAtom 122 = .ok (.aload_n 1, 1) := by decide +kernel
theorem dX5_readAtom_123 : decode cX5_readAtom 123 = .ok (.invokevirtual 133, 3) := by decide +kernel
theorem dX5_readAtom_126 : decode cX5_readAtom 126 = .ok (.ifCond .eq 17, 3) := by decide +kernel
theorem dX5_readAtom_129 : decode cX5_readAtom 129 = .ok (.aload_n 0, 1) := by decide +kernel
theorem dX5_readAtom_130 : decode cX5_readAtom 130 = .ok (.sipush 2001, 3) := by decide +kernel
theorem dX5_readAtom_133 : decode cX5_readAtom 133 = .ok (.invokevirtual 121, 3) := by decide +kernel
theorem dX5_readAtom_136 : decode cX5_readAtom 136 = .ok (.ifCond .eq 7, 3) := by decide +kernel
theorem dX5_readAtom_139 : decode cX5_readAtom 139 = .ok (.iconst 1, 1) := by decide +kernel
theorem dX5_readAtom_140 : decode cX5_readAtom 140 = .ok (.goto 4, 3) := by decide +kernel
theorem dX5_readAtom_143 : decode cX5_readAtom 143 = .ok (.iconst 0, 1) := by decide +kernel
theorem dX5_readAtom_144 : decode cX5_readAtom 144 = .ok (.ireturn, 1) := by decide +kernel
theorem dX5_readAtom_145 : decode cX5_readAtom 145 = .ok (.aload_n 1, 1) := by decide +kernel
theorem dX5_readAtom_146 : decode cX5_readAtom 146 = .ok (.bipush 62, 2) := by decide +kernel
theorem dX5_readAtom_148 : decode cX5_readAtom 148 = .ok (.invokevirtual 93, 3) := by decide +kernel
theorem dX5_readAtom_151 : decode cX5_readAtom 151 = .ok (.ifCond .eq 27, 3) := by decide +kernel
theorem dX5_readAtom_154 : decode cX5_readAtom 154 = .ok (.aload_n 0, 1) := by decide +kernel
theorem dX5_readAtom_155 : decode cX5_readAtom 155 = .ok (.aload_n 1, 1) := by decide +kernel
theorem dX5_readAtom_156 : decode cX5_readAtom 156 = .ok (.invokevirtual 133, 3) := by decide +kernel
theorem dX5_readAtom_159 : decode cX5_readAtom 159 = .ok (.ifCond .eq 17, 3) := by decide +kernel
theorem dX5_readAtom_162 : decode cX5_readAtom 162 = .ok (.aload_n 0, 1) := by decide +kernel
theorem dX5_readAtom_163 : decode cX5_readAtom 163 = .ok (.sipush 2002, 3) := by decide +kernel
theorem dX5_readAtom_166 : decode cX5_readAtom 166 = .ok (.invokevirtual 121, 3) := by decide +kernel
theorem dX5_readAtom_169 : decode cX5_readAtom 169 = .ok (.ifCond .eq 7, 3) := by decide +kernel
theorem dX5_readAtom_172 : decode cX5_readAtom 172 = .ok (.iconst 1, 1) := by decide +kernel
theorem dX5_readAtom_173 : decode cX5_readAtom 173 = .ok (.goto 4, 3) := by decide +kernel
theorem dX5_readAtom_176 : decode cX5_readAtom 176 = .ok (.iconst 0, 1) := by decide +kernel
theorem dX5_readAtom_177 : decode cX5_readAtom 177 = .ok (.ireturn, 1) := by decide +kernel
theorem dX5_readAtom_178 : decode cX5_readAtom 178 = .ok (.aload_n 1, 1) := by decide +kernel
theorem dX5_readAtom_179 : decode cX5_readAtom 179 = .ok (.invokevirtual 97, 3) := by decide +kernel
theorem dX5_readAtom_182 : decode cX5_readAtom 182 = .ok (.ireturn, 1) := by decide +kernel
set_option maxRecDepth 20000 in
theorem kb_54_0 : ∀ q ∈ tb_54_0, s_atx 54 yX5_readAtom cX5_readAtom q.1 q.2 := (List.forall_mem_cons.mpr ⟨⟨s_ldAn dX5_readAtom_0 rfl, s_mo_ldA _ _⟩, (List.forall_mem_cons.mpr ⟨⟨s_ldcS (tx := "not") (List.mem_of_getElem? (i := 14) rfl) dX5_readAtom_1, s_mo_push _ _⟩, (List.forall_mem_cons.mpr ⟨⟨s_sV mk_54 mk_82 ok_82 (by decide +kernel) dX5_readAtom_3 w_716 w_516 w_517 (Or.inr ⟨5, _, _, rfl, rfl⟩), s_h0 mk_54⟩, (List.forall_mem_cons.mpr ⟨⟨s_ifeq dX5_readAtom_6 (by decide), s_mo_ifeq _ _⟩, (List.forall_mem_cons.mpr ⟨⟨s_ldIn dX5_readAtom_9 rfl, s_mo_ldI _ _⟩, (List.forall_mem_cons.mpr ⟨⟨s_bipush dX5_readAtom_10 (by decide +kernel), s_mo_push _ _⟩, (List.forall_mem_cons.mpr ⟨⟨s_iclt dX5_readAtom_12 (by decide), s_mo_iclt _ _⟩, (List.forall_mem_cons.mpr ⟨⟨s_ldAn dX5_readAtom_15 rfl, s_mo_ldA _ _⟩, (List.forall_mem_cons.mpr ⟨⟨s_sV mk_54 mk_85 ok_85 (by decide +kernel) dX5_readAtom_16 w_731 w_609 w_610 (Or.inr ⟨5, _, _, rfl, rfl⟩), s_h0 mk_54⟩, (List.forall_mem_cons.mpr ⟨s_r2 mk_54 dX5_readAtom_19, (List.forall_mem_cons.mpr ⟨⟨s_ldAn dX5_readAtom_20 rfl, s_mo_ldA _ _⟩, (List.forall_mem_cons.mpr ⟨⟨s_ldAn dX5_readAtom_21 rfl, s_mo_ldA _ _⟩, (List.forall_mem_cons.mpr ⟨⟨s_ldIn dX5_readAtom_22 rfl, s_mo_ldI _ _⟩, (List.forall_mem_cons.mpr ⟨⟨s_iconst dX5_readAtom_23 (by decide +kernel), s_mo_push _ _⟩, (List.forall_mem_cons.mpr ⟨⟨s_iadd dX5_readAtom_24, s_mo_bin _ _⟩, (List.forall_mem_cons.mpr ⟨⟨s_sV mk_54 mk_54 ok_54 (by decide +kernel) dX5_readAtom_25 w_726 w_728 wp_6 (Or.inr ⟨2, _, _, rfl, rfl⟩), s_h0 mk_54⟩, (List.forall_mem_cons.mpr ⟨⟨s_ifeq dX5_readAtom_28 (by decide), s_mo_ifeq _ _⟩, (List.forall_mem_cons.mpr ⟨⟨s_ldAn dX5_readAtom_31 rfl, s_mo_ldA _ _⟩, (List.forall_mem_cons.mpr ⟨⟨s_sipush dX5_readAtom_32 (by decide +kernel), s_mo_push _ _⟩, (List.forall_mem_cons.mpr ⟨⟨s_sV mk_54 mk_57 ok_57 (by decide +kernel) dX5_readAtom_35 w_732 w_734 wp_7 (Or.inr ⟨2, _, _, rfl, rfl⟩), s_h0 mk_54⟩, (List.forall_mem_cons.mpr ⟨⟨s_ifeq dX5_readAtom_38 (by decide), s_mo_ifeq _ _⟩, (List.forall_mem_cons.mpr ⟨⟨s_iconst dX5_readAtom_41 (by decide +kernel), s_mo_push _ _⟩, (List.forall_mem_cons.mpr ⟨⟨s_goto dX5_readAtom_42 (by decide), s_mo_goto _⟩, (List.forall_mem_cons.mpr ⟨⟨s_iconst dX5_readAtom_45 (by decide +kernel), s_mo_push _ _⟩, (List.forall_mem_cons.mpr ⟨s_r2 mk_54 dX5_readAtom_46, (List.forall_mem_cons.mpr ⟨⟨s_ldAn dX5_readAtom_47 rfl, s_mo_ldA _ _⟩, (List.forall_mem_cons.mpr ⟨⟨s_bipush dX5_readAtom_48 (by decide +kernel), s_mo_push _ _⟩, (List.forall_mem_cons.mpr ⟨⟨s_sV mk_54 mk_81 ok_81 (by decide +kernel) dX5_readAtom_50 w_736 w_613 w_614 (Or.inr ⟨5, _, _, rfl, rfl⟩), s_h0 mk_54⟩, (List.forall_mem_cons.mpr ⟨⟨s_ifeq dX5_readAtom_53 (by decide), s_mo_ifeq _ _⟩, (List.forall_mem_cons.mpr ⟨⟨s_ldIn dX5_readAtom_56 rfl, s_mo_ldI _ _⟩, (List.forall_mem_cons.mpr ⟨⟨s_bipush dX5_readAtom_57 (by decide +kernel), s_mo_push _ _⟩, (List.forall_mem_cons.mpr ⟨⟨s_iclt dX5_readAtom_59 (by decide), s_mo_iclt _ _⟩, (List.forall_mem_cons.mpr ⟨⟨s_ldAn dX5_readAtom_62 rfl, s_mo_ldA _ _⟩, (List.forall_mem_cons.mpr ⟨⟨s_sV mk_54 mk_85 ok_85 (by decide +kernel) dX5_readAtom_63 w_731 w_609 w_610 (Or.inr ⟨5, _, _, rfl, rfl⟩), s_h0 mk_54⟩, (fun _ h => absurd h List.not_mem_nil)⟩)⟩)⟩)⟩)⟩)⟩)⟩)⟩)⟩)⟩)⟩)⟩)⟩)⟩)⟩)⟩)⟩)⟩)⟩)⟩)⟩)⟩)⟩)⟩)⟩)⟩)⟩)⟩)⟩)⟩)⟩)⟩)⟩)⟩)
set_option maxRecDepth 20000 in
theorem kb_54_1 : ∀ q ∈ tb_54_1, s_atx 54 yX5_readAtom cX5_readAtom q.1 q.2 := (List.forall_mem_cons.mpr ⟨s_r2 mk_54 dX5_readAtom_66, (List.forall_mem_cons.mpr ⟨⟨s_ldAn dX5_readAtom_67 rfl, s_mo_ldA _ _⟩, (List.forall_mem_cons.mpr ⟨⟨s_ldAn dX5_readAtom_68 rfl, s_mo_ldA _ _⟩, (List.forall_mem_cons.mpr ⟨⟨s_ldIn dX5_readAtom_69 rfl, s_mo_ldI _ _⟩, (List.forall_mem_cons.mpr ⟨⟨s_iconst dX5_readAtom_70 (by decide +kernel), s_mo_push _ _⟩, (List.forall_mem_cons.mpr ⟨⟨s_iadd dX5_readAtom_71, s_mo_bin _ _⟩, (List.forall_mem_cons.mpr ⟨⟨s_sV mk_54 mk_53 ok_53 (by decide +kernel) dX5_readAtom_72 w_722 w_724 wp_5 (Or.inr ⟨2, _, _, rfl, rfl⟩), s_h0 mk_54⟩, (List.forall_mem_cons.mpr ⟨⟨s_ifne dX5_readAtom_75 (by decide), s_mo_ifne _ _⟩, (List.forall_mem_cons.mpr ⟨⟨s_iconst dX5_readAtom_78 (by decide +kernel), s_mo_push _ _⟩, (List.forall_mem_cons.mpr ⟨s_r2 mk_54 dX5_readAtom_79, (List.forall_mem_cons.mpr ⟨⟨s_ldAn dX5_readAtom_80 rfl, s_mo_ldA _ _⟩, (List.forall_mem_cons.mpr ⟨⟨s_bipush dX5_readAtom_81 (by decide +kernel), s_mo_push _ _⟩, (List.forall_mem_cons.mpr ⟨⟨s_sV mk_54 mk_81 ok_81 (by decide +kernel) dX5_readAtom_83 w_736 w_613 w_614 (Or.inr ⟨5, _, _, rfl, rfl⟩), s_h0 mk_54⟩, (List.forall_mem_cons.mpr ⟨⟨s_ifne dX5_readAtom_86 (by decide), s_mo_ifne _ _⟩, (List.forall_mem_cons.mpr ⟨⟨s_ldAn dX5_readAtom_89 rfl, s_mo_ldA _ _⟩, (List.forall_mem_cons.mpr ⟨⟨s_sV mk_54 mk_84 ok_84 (by decide +kernel) dX5_readAtom_90 w_720 w_604 w_605 (Or.inr ⟨5, _, _, rfl, rfl⟩), s_h0 mk_54⟩, (List.forall_mem_cons.mpr ⟨⟨s_ifeq dX5_readAtom_93 (by decide), s_mo_ifeq _ _⟩, (List.forall_mem_cons.mpr ⟨⟨s_iconst dX5_readAtom_96 (by decide +kernel), s_mo_push _ _⟩, (List.forall_mem_cons.mpr ⟨⟨s_goto dX5_readAtom_97 (by decide), s_mo_goto _⟩, (List.forall_mem_cons.mpr ⟨⟨s_iconst dX5_readAtom_100 (by decide +kernel), s_mo_push _ _⟩, (List.forall_mem_cons.mpr ⟨s_r2 mk_54 dX5_readAtom_101, (List.forall_mem_cons.mpr ⟨⟨s_ldAn dX5_readAtom_102 rfl, s_mo_ldA _ _⟩, (List.forall_mem_cons.mpr ⟨⟨s_ldAn dX5_readAtom_103 rfl, s_mo_ldA _ _⟩, (List.forall_mem_cons.mpr ⟨⟨s_sV mk_54 mk_55 ok_55 (by decide +kernel) dX5_readAtom_104 w_737 w_739 wp_8 (Or.inr ⟨2, _, _, rfl, rfl⟩), s_h0 mk_54⟩, (List.forall_mem_cons.mpr ⟨⟨s_ifne dX5_readAtom_107 (by decide), s_mo_ifne _ _⟩, (List.forall_mem_cons.mpr ⟨⟨s_iconst dX5_readAtom_110 (by decide +kernel), s_mo_push _ _⟩, (List.forall_mem_cons.mpr ⟨s_r2 mk_54 dX5_readAtom_111, (List.forall_mem_cons.mpr ⟨⟨s_ldAn dX5_readAtom_112 rfl, s_mo_ldA _ _⟩, (List.forall_mem_cons.mpr ⟨⟨s_bipush dX5_readAtom_113 (by decide +kernel), s_mo_push _ _⟩, (List.forall_mem_cons.mpr ⟨⟨s_sV mk_54 mk_81 ok_81 (by decide +kernel) dX5_readAtom_115 w_736 w_613 w_614 (Or.inr ⟨5, _, _, rfl, rfl⟩), s_h0 mk_54⟩, (List.forall_mem_cons.mpr ⟨⟨s_ifeq dX5_readAtom_118 (by decide), s_mo_ifeq _ _⟩, (List.forall_mem_cons.mpr ⟨⟨s_ldAn dX5_readAtom_121 rfl, s_mo_ldA _ _⟩, (List.forall_mem_cons.mpr ⟨⟨s_ldAn dX5_readAtom_122 rfl, s_mo_ldA _ _⟩, (List.forall_mem_cons.mpr ⟨⟨s_sV mk_54 mk_55 ok_55 (by decide +kernel) dX5_readAtom_123 w_737 w_739 wp_8 (Or.inr ⟨2, _, _, rfl, rfl⟩), s_h0 mk_54⟩, (List.forall_mem_cons.mpr ⟨⟨s_ifeq dX5_readAtom_126 (by decide), s_mo_ifeq _ _⟩, (fun _ h => absurd h List.not_mem_nil)⟩)⟩)⟩)⟩)⟩)⟩)⟩)⟩)⟩)⟩)⟩)⟩)⟩)⟩)⟩)⟩)⟩)⟩)⟩)⟩)⟩)⟩)⟩)⟩)⟩)⟩)⟩)⟩)⟩)⟩)⟩)⟩)⟩)⟩)⟩)
set_option maxRecDepth 20000 in
theorem kb_54_2 : ∀ q ∈ tb_54_2, s_atx 54 yX5_readAtom cX5_readAtom q.1 q.2 := (List.forall_mem_cons.mpr ⟨⟨s_ldAn dX5_readAtom_129 rfl, s_mo_ldA _ _⟩, (List.forall_mem_cons.mpr ⟨⟨s_sipush dX5_readAtom_130 (by decide +kernel), s_mo_push _ _⟩, (List.forall_mem_cons.mpr ⟨⟨s_sV mk_54 mk_57 ok_57 (by decide +kernel) dX5_readAtom_133 w_732 w_734 wp_7 (Or.inr ⟨2, _, _, rfl, rfl⟩), s_h0 mk_54⟩, (List.forall_mem_cons.mpr ⟨⟨s_ifeq dX5_readAtom_136 (by decide), s_mo_ifeq _ _⟩, (List.forall_mem_cons.mpr ⟨⟨s_iconst dX5_readAtom_139 (by decide +kernel), s_mo_push _ _⟩, (List.forall_mem_cons.mpr ⟨⟨s_goto dX5_readAtom_140 (by decide), s_mo_goto _⟩, (List.forall_mem_cons.mpr ⟨⟨s_iconst dX5_readAtom_143 (by decide +kernel), s_mo_push _ _⟩, (List.forall_mem_cons.mpr ⟨s_r2 mk_54 dX5_readAtom_144, (List.forall_mem_cons.mpr ⟨⟨s_ldAn dX5_readAtom_145 rfl, s_mo_ldA _ _⟩, (List.forall_mem_cons.mpr ⟨⟨s_bipush dX5_readAtom_146 (by decide +kernel), s_mo_push _ _⟩, (List.forall_mem_cons.mpr ⟨⟨s_sV mk_54 mk_81 ok_81 (by decide +kernel) dX5_readAtom_148 w_736 w_613 w_614 (Or.inr ⟨5, _, _, rfl, rfl⟩), s_h0 mk_54⟩, (List.forall_mem_cons.mpr ⟨⟨s_ifeq dX5_readAtom_151 (by decide), s_mo_ifeq _ _⟩, (List.forall_mem_cons.mpr ⟨⟨s_ldAn dX5_readAtom_154 rfl, s_mo_ldA _ _⟩, (List.forall_mem_cons.mpr ⟨⟨s_ldAn dX5_readAtom_155 rfl, s_mo_ldA _ _⟩, (List.forall_mem_cons.mpr ⟨⟨s_sV mk_54 mk_55 ok_55 (by decide +kernel) dX5_readAtom_156 w_737 w_739 wp_8 (Or.inr ⟨2, _, _, rfl, rfl⟩), s_h0 mk_54⟩, (List.forall_mem_cons.mpr ⟨⟨s_ifeq dX5_readAtom_159 (by decide), s_mo_ifeq _ _⟩, (List.forall_mem_cons.mpr ⟨⟨s_ldAn dX5_readAtom_162 rfl, s_mo_ldA _ _⟩, (List.forall_mem_cons.mpr ⟨⟨s_sipush dX5_readAtom_163 (by decide +kernel), s_mo_push _ _⟩, (List.forall_mem_cons.mpr ⟨⟨s_sV mk_54 mk_57 ok_57 (by decide +kernel) dX5_readAtom_166 w_732 w_734 wp_7 (Or.inr ⟨2, _, _, rfl, rfl⟩), s_h0 mk_54⟩, (List.forall_mem_cons.mpr ⟨⟨s_ifeq dX5_readAtom_169 (by decide), s_mo_ifeq _ _⟩, (List.forall_mem_cons.mpr ⟨⟨s_iconst dX5_readAtom_172 (by decide +kernel), s_mo_push _ _⟩, (List.forall_mem_cons.mpr ⟨⟨s_goto dX5_readAtom_173 (by decide), s_mo_goto _⟩, (List.forall_mem_cons.mpr ⟨⟨s_iconst dX5_readAtom_176 (by decide +kernel), s_mo_push _ _⟩, (List.forall_mem_cons.mpr ⟨s_r2 mk_54 dX5_readAtom_177, (List.forall_mem_cons.mpr ⟨⟨s_ldAn dX5_readAtom_178 rfl, s_mo_ldA _ _⟩, (List.forall_mem_cons.mpr ⟨⟨s_sV mk_54 mk_84 ok_84 (by decide +kernel) dX5_readAtom_179 w_720 w_604 w_605 (Or.inr ⟨5, _, _, rfl, rfl⟩), s_h0 mk_54⟩, (List.forall_mem_cons.mpr ⟨s_r2 mk_54 dX5_readAtom_182, (fun _ h => absurd h List.not_mem_nil)⟩)⟩)⟩)⟩)⟩)⟩)⟩)⟩)⟩)⟩)⟩)⟩)⟩)⟩)⟩)⟩)⟩)⟩)⟩)⟩)⟩)⟩)⟩)⟩)⟩)⟩)⟩)
theorem km_54 : ∀ t ∈ tm_54, s_tok 54 t := (List.forall_mem_cons.mpr ⟨s_lift mk_54 kb_54_0, (List.forall_mem_cons.mpr ⟨s_lift mk_54 kb_54_1, (List.forall_mem_cons.mpr ⟨s_lift mk_54 kb_54_2, (fun _ h => absurd h List.not_mem_nil)⟩)⟩)⟩)
theorem dX5_readSum_0 : decode cX5_readSum 0 = .ok (.iconst 0, 1) := by decide +kernel
theorem dX5_readSum_1 : decode cX5_readSum 1 = .ok (.istore_n 2, 1) := by decide +kernel
theorem dX5_readSum_2 : decode cX5_readSum 2 = .ok (.iload_n 2, 1) := by decide +kernel
theorem dX5_readSum_3 : decode cX5_readSum 3 = .ok (.sipush 400, 3) := by decide +kernel
theorem dX5_readSum_6 : decode cX5_readSum 6 = .ok (.if_icmp .ge 101, 3) := by decide +kernel
theorem dX5_readSum_9 : decode cX5_readSum 9 = .ok (.iconst (-1), 1) := by decide +kernel
theorem dX5_readSum_10 : decode cX5_readSum 10 = .ok (.istore_n 3, 1) := by decide +kernel
theorem dX5_readSum_11 : decode cX5_readSum 11 = .ok (.iconst 0, 1) := by decide +kernel
theorem dX5_readSum_12 : decode cX5_readSum 12 = .ok (.istore 4, 2) := by decide +kernel
theorem dX5_readSum_14 : decode cX5_readSum 14 = .ok (.iload 4, 2) := by decide +kernel
theorem dX5_readSum_16 : decode cX5_readSum 16 = .ok (.bipush 7, 2) := by decide +kernel
theorem dX5_readSum_18 : decode cX5_readSum 18 = .ok (.if_icmp .ge 33, 3) := by decide +kernel
theorem dX5_readSum_21 : decode cX5_readSum 21 = .ok (.iload_n 3, 1) := by decide +kernel
theorem dX5_readSum_22 : decode cX5_readSum 22 = .ok (.iconst (-1), 1) := by decide +kernel
theorem dX5_readSum_23 : decode cX5_readSum 23 = .ok (.if_icmp .ne 28, 3) := by decide +kernel
theorem dX5_readSum_26 : decode cX5_readSum 26 = .ok (.aload_n 1, 1) := by decide +kernel
theorem dX5_readSum_27 : decode cX5_readSum 27 = .ok (.iload 4, 2) := by decide +kernel
theorem dX5_readSum_29 : decode cX5_readSum 29 = .ok (.invokestatic 137, 3) := by decide +kernel
theorem dX5_readSum_32 : decode cX5_readSum 32 = .ok (.invokevirtual 102, 3) := by decide +kernel
theorem dX5_readSum_35 : decode cX5_readSum 35 = .ok (.ifCond .eq 10, 3) := by decide +kernel
theorem dX5_readSum_38 : decode cX5_readSum 38 = .ok (.sipush 1000, 3) := by decide +kernel
theorem dX5_readSum_41 : decode cX5_readSum 41 = .ok (.iload 4, 2) := by decide +kernel
theorem dX5_readSum_43 : decode cX5_readSum 43 = .ok (.iadd, 1) := by decide +kernel
theorem dX5_readSum_44 : decode cX5_readSum 44 = .ok (.istore_n 3, 1) := by decide +kernel
theorem dX5_readSum_45 : decode cX5_readSum 45 = .ok (.iinc 4 1, 3) := by decide +kernel
theorem dX5_readSum_48 : decode cX5_readSum 48 = .ok (.goto (-34), 3) := by decide +kernel
theorem dX5_readSum_51 : decode cX5_readSum 51 = .ok (.iload_n 3, 1) := by decide +kernel
theorem dX5_readSum_52 : decode cX5_readSum 52 = .ok (.iconst (-1), 1) := by decide +kernel
theorem dX5_readSum_53 : decode cX5_readSum 53 = .ok (.if_icmp .ne 12, 3) := by decide +kernel
theorem dX5_readSum_56 : decode cX5_readSum 56 = .ok (.aload_n 1, 1) := by decide +kernel
theorem dX5_readSum_57 : decode cX5_readSum 57 = .ok (.iconst 0, 1) := by decide +kernel
theorem dX5_readSum_58 : decode cX5_readSum 58 = .ok (.sipush 999, 3) := by decide +kernel
theorem dX5_readSum_61 : decode cX5_readSum 61 = .ok (.invokevirtual 110, 3) := by decide +kernel
theorem dX5_readSum_64 : decode cX5_readSum 64 = .ok (.istore_n 3, 1) := by decide +kernel
theorem dX5_readSum_65 : decode cX5_readSum 65 = .ok (.iload_n 3, 1) := by decide +kernel
theorem dX5_readSum_66 : decode cX5_readSum 66 = .ok (.iconst (-1), 1) := by decide +kernel
theorem dX5_readSum_67 : decode cX5_readSum 67 = .ok (.if_icmp .ne 5, 3) := by decide +kernel
theorem dX5_readSum_70 : decode cX5_readSum 70 = .ok (.iconst 0, 1) := by decide +kernel
theorem dX5_readSum_71 : decode cX5_readSum 71 = .ok (.ireturn, 1) := by decide +kernel
theorem dX5_readSum_72 : decode cX5_readSum 72 = .ok (.aload_n 0, 1) := by decide +kernel
theorem dX5_readSum_73 : decode cX5_readSum 73 = .ok (.iload_n 3, 1) := by decide +kernel
theorem dX5_readSum_74 : decode cX5_readSum 74 = .ok (.invokevirtual 121, 3) := by decide +kernel
theorem dX5_readSum_77 : decode cX5_readSum 77 = .ok (.pop, 1) := by decide +kernel
theorem dX5_readSum_78 : decode cX5_readSum 78 = .ok (.iload_n 2, 1) := by decide +kernel
theorem dX5_readSum_79 : decode cX5_readSum 79 = .ok (.ifCond .le 11, 3) := by decide +kernel
theorem dX5_readSum_82 : decode cX5_readSum 82 = .ok (.aload_n 0, 1) := by decide +kernel
theorem dX5_readSum_83 : decode cX5_readSum 83 = .ok (.sipush 2000, 3) := by decide +kernel
theorem dX5_readSum_86 : decode cX5_readSum 86 = .ok (.invokevirtual 121, 3) := by decide +kernel
theorem dX5_readSum_89 : decode cX5_readSum 89 = .ok (.pop, 1) := by decide +kernel
theorem dX5_readSum_90 : decode cX5_readSum 90 = .ok (.aload_n 1, 1) := by decide +kernel
theorem dX5_readSum_91 : decode cX5_readSum 91 = .ok (.bipush 43, 2) := by decide +kernel
theorem dX5_readSum_93 : decode cX5_readSum 93 = .ok (.invokevirtual 93, 3) := by decide +kernel
theorem dX5_readSum_96 : decode cX5_readSum 96 = .ok (.ifCond .ne 5, 3) := by decide +kernel
theorem dX5_readSum_99 : decode cX5_readSum 99 = .ok (.iconst 1, 1) := by decide +kernel
theorem dX5_readSum_100 : decode cX5_readSum 100 = .ok (.ireturn, 1) := by decide +kernel
theorem dX5_readSum_101 : decode cX5_readSum 101 = .ok (.iinc 2 1, 3) := by decide +kernel
theorem dX5_readSum_104 : decode cX5_readSum 104 = .ok (.goto (-102), 3) := by decide +kernel
theorem dX5_readSum_107 : decode cX5_readSum 107 = .ok (.iconst 1, 1) := by decide +kernel
theorem dX5_readSum_108 : decode cX5_readSum 108 = .ok (.ireturn, 1) := by decide +kernel
set_option maxRecDepth 20000 in
theorem kb_55_0 : ∀ q ∈ tb_55_0, s_atx 55 yX5_readSum cX5_readSum q.1 q.2 := (List.forall_mem_cons.mpr ⟨⟨s_iconst dX5_readSum_0 (by decide +kernel), s_mo_push _ _⟩, (List.forall_mem_cons.mpr ⟨⟨s_stIn dX5_readSum_1 rfl, s_mo_stI _ _⟩, (List.forall_mem_cons.mpr ⟨⟨s_ldIn dX5_readSum_2 rfl, s_mo_ldI _ _⟩, (List.forall_mem_cons.mpr ⟨⟨s_sipush dX5_readSum_3 (by decide +kernel), s_mo_push _ _⟩, (List.forall_mem_cons.mpr ⟨⟨s_icge dX5_readSum_6 (by decide), s_mo_icge _ _⟩, (List.forall_mem_cons.mpr ⟨⟨s_iconst dX5_readSum_9 (by decide +kernel), s_mo_push _ _⟩, (List.forall_mem_cons.mpr ⟨⟨s_stIn dX5_readSum_10 rfl, s_mo_stI _ _⟩, (List.forall_mem_cons.mpr ⟨⟨s_iconst dX5_readSum_11 (by decide +kernel), s_mo_push _ _⟩, (List.forall_mem_cons.mpr ⟨⟨s_stI dX5_readSum_12, s_mo_stI _ _⟩, (List.forall_mem_cons.mpr ⟨⟨s_ldI dX5_readSum_14, s_mo_ldI _ _⟩, (List.forall_mem_cons.mpr ⟨⟨s_bipush dX5_readSum_16 (by decide +kernel), s_mo_push _ _⟩, (List.forall_mem_cons.mpr ⟨⟨s_icge dX5_readSum_18 (by decide), s_mo_icge _ _⟩, (List.forall_mem_cons.mpr ⟨⟨s_ldIn dX5_readSum_21 rfl, s_mo_ldI _ _⟩, (List.forall_mem_cons.mpr ⟨⟨s_iconst dX5_readSum_22 (by decide +kernel), s_mo_push _ _⟩, (List.forall_mem_cons.mpr ⟨⟨s_icne dX5_readSum_23 (by decide), s_mo_icne _ _⟩, (List.forall_mem_cons.mpr ⟨⟨s_ldAn dX5_readSum_26 rfl, s_mo_ldA _ _⟩, (List.forall_mem_cons.mpr ⟨⟨s_ldI dX5_readSum_27, s_mo_ldI _ _⟩, (List.forall_mem_cons.mpr ⟨⟨s_sS mk_55 mk_56 ok_56 (by decide +kernel) dX5_readSum_29 w_741 w_742, s_h0 mk_55⟩, (List.forall_mem_cons.mpr ⟨⟨s_sV mk_55 mk_82 ok_82 (by decide +kernel) dX5_readSum_32 w_716 w_516 w_517 (Or.inr ⟨5, _, _, rfl, rfl⟩), s_h0 mk_55⟩, (List.forall_mem_cons.mpr ⟨⟨s_ifeq dX5_readSum_35 (by decide), s_mo_ifeq _ _⟩, (List.forall_mem_cons.mpr ⟨⟨s_sipush dX5_readSum_38 (by decide +kernel), s_mo_push _ _⟩, (List.forall_mem_cons.mpr ⟨⟨s_ldI dX5_readSum_41, s_mo_ldI _ _⟩, (List.forall_mem_cons.mpr ⟨⟨s_iadd dX5_readSum_43, s_mo_bin _ _⟩, (List.forall_mem_cons.mpr ⟨⟨s_stIn dX5_readSum_44 rfl, s_mo_stI _ _⟩, (List.forall_mem_cons.mpr ⟨⟨s_inc dX5_readSum_45 (by decide +kernel), s_mo_inc _ _ _⟩, (List.forall_mem_cons.mpr ⟨⟨s_goto dX5_readSum_48 (by decide), s_mo_goto _⟩, (List.forall_mem_cons.mpr ⟨⟨s_ldIn dX5_readSum_51 rfl, s_mo_ldI _ _⟩, (List.forall_mem_cons.mpr ⟨⟨s_iconst dX5_readSum_52 (by decide +kernel), s_mo_push _ _⟩, (List.forall_mem_cons.mpr ⟨⟨s_icne dX5_readSum_53 (by decide), s_mo_icne _ _⟩, (List.forall_mem_cons.mpr ⟨⟨s_ldAn dX5_readSum_56 rfl, s_mo_ldA _ _⟩, (List.forall_mem_cons.mpr ⟨⟨s_iconst dX5_readSum_57 (by decide +kernel), s_mo_push _ _⟩, (List.forall_mem_cons.mpr ⟨⟨s_sipush dX5_readSum_58 (by decide +kernel), s_mo_push _ _⟩, (List.forall_mem_cons.mpr ⟨⟨s_sV mk_55 mk_83 ok_83 (by decide +kernel) dX5_readSum_61 w_719 w_575 w_576 (Or.inr ⟨5, _, _, rfl, rfl⟩), s_h0 mk_55⟩, (fun _ h => absurd h List.not_mem_nil)⟩)⟩)⟩)⟩)⟩)⟩)⟩)⟩)⟩)⟩)⟩)⟩)⟩)⟩)⟩)⟩)⟩)⟩)⟩)⟩)⟩)⟩)⟩)⟩)⟩)⟩)⟩)⟩)⟩)⟩)⟩)⟩)⟩)
set_option maxRecDepth 20000 in
theorem kb_55_1 : ∀ q ∈ tb_55_1, s_atx 55 yX5_readSum cX5_readSum q.1 q.2 := (List.forall_mem_cons.mpr ⟨⟨s_stIn dX5_readSum_64 rfl, s_mo_stI _ _⟩, (List.forall_mem_cons.mpr ⟨⟨s_ldIn dX5_readSum_65 rfl, s_mo_ldI _ _⟩, (List.forall_mem_cons.mpr ⟨⟨s_iconst dX5_readSum_66 (by decide +kernel), s_mo_push _ _⟩, (List.forall_mem_cons.mpr ⟨⟨s_icne dX5_readSum_67 (by decide), s_mo_icne _ _⟩, (List.forall_mem_cons.mpr ⟨⟨s_iconst dX5_readSum_70 (by decide +kernel), s_mo_push _ _⟩, (List.forall_mem_cons.mpr ⟨s_r2 mk_55 dX5_readSum_71, (List.forall_mem_cons.mpr ⟨⟨s_ldAn dX5_readSum_72 rfl, s_mo_ldA _ _⟩, (List.forall_mem_cons.mpr ⟨⟨s_ldIn dX5_readSum_73 rfl, s_mo_ldI _ _⟩, (List.forall_mem_cons.mpr ⟨⟨s_sV mk_55 mk_57 ok_57 (by decide +kernel) dX5_readSum_74 w_732 w_734 wp_7 (Or.inr ⟨2, _, _, rfl, rfl⟩), s_h0 mk_55⟩, (List.forall_mem_cons.mpr ⟨⟨s_pop dX5_readSum_77, s_mo_pop _⟩, (List.forall_mem_cons.mpr ⟨⟨s_ldIn dX5_readSum_78 rfl, s_mo_ldI _ _⟩, (List.forall_mem_cons.mpr ⟨⟨s_ifle dX5_readSum_79 (by decide), s_mo_ifle _ _⟩, (List.forall_mem_cons.mpr ⟨⟨s_ldAn dX5_readSum_82 rfl, s_mo_ldA _ _⟩, (List.forall_mem_cons.mpr ⟨⟨s_sipush dX5_readSum_83 (by decide +kernel), s_mo_push _ _⟩, (List.forall_mem_cons.mpr ⟨⟨s_sV mk_55 mk_57 ok_57 (by decide +kernel) dX5_readSum_86 w_732 w_734 wp_7 (Or.inr ⟨2, _, _, rfl, rfl⟩), s_h0 mk_55⟩, (List.forall_mem_cons.mpr ⟨⟨s_pop dX5_readSum_89, s_mo_pop _⟩, (List.forall_mem_cons.mpr ⟨⟨s_ldAn dX5_readSum_90 rfl, s_mo_ldA _ _⟩, (List.forall_mem_cons.mpr ⟨⟨s_bipush dX5_readSum_91 (by decide +kernel), s_mo_push _ _⟩, (List.forall_mem_cons.mpr ⟨⟨s_sV mk_55 mk_81 ok_81 (by decide +kernel) dX5_readSum_93 w_736 w_613 w_614 (Or.inr ⟨5, _, _, rfl, rfl⟩), s_h0 mk_55⟩, (List.forall_mem_cons.mpr ⟨⟨s_ifne dX5_readSum_96 (by decide), s_mo_ifne _ _⟩, (List.forall_mem_cons.mpr ⟨⟨s_iconst dX5_readSum_99 (by decide +kernel), s_mo_push _ _⟩, (List.forall_mem_cons.mpr ⟨s_r2 mk_55 dX5_readSum_100, (List.forall_mem_cons.mpr ⟨⟨s_inc dX5_readSum_101 (by decide +kernel), s_mo_inc _ _ _⟩, (List.forall_mem_cons.mpr ⟨⟨s_goto dX5_readSum_104 (by decide), s_mo_goto _⟩, (List.forall_mem_cons.mpr ⟨⟨s_iconst dX5_readSum_107 (by decide +kernel), s_mo_push _ _⟩, (List.forall_mem_cons.mpr ⟨s_r2 mk_55 dX5_readSum_108, (fun _ h => absurd h List.not_mem_nil)⟩)⟩)⟩)⟩)⟩)⟩)⟩)⟩)⟩)⟩)⟩)⟩)⟩)⟩)⟩)⟩)⟩)⟩)⟩)⟩)⟩)⟩)⟩)⟩)⟩)⟩)
theorem km_55 : ∀ t ∈ tm_55, s_tok 55 t := (List.forall_mem_cons.mpr ⟨s_lift mk_55 kb_55_0, (List.forall_mem_cons.mpr ⟨s_lift mk_55 kb_55_1, (fun _ h => absurd h List.not_mem_nil)⟩)⟩)
theorem dX5_factName_0 : decode cX5_factName 0 = .ok (.iload_n 0, 1) := by decide +kernel
theorem dX5_factName_1 : decode cX5_factName 1 = .ok (.tableswitch 57 0 5 #[39, 42, 45, 48, 51, 54], 39) := by decide +kernel
theorem dX5_factName_40 : decode cX5_factName 40 = .ok (.ldc 141, 2) := by decide +kernel
theorem dX5_factName_42 : decode cX5_factName 42 = .ok (.areturn, 1) := by decide +kernel
theorem dX5_factName_43 : decode cX5_factName 43 = .ok (.ldc 142, 2) := by decide +kernel
theorem dX5_factName_45 : decode cX5_factName 45 = .ok (.areturn, 1) := by decide +kernel
theorem dX5_factName_46 : decode cX5_factName 46 = .ok (.ldc 143, 2) := by decide +kernel
theorem dX5_factName_48 : decode cX5_factName 48 = .ok (.areturn, 1) := by decide +kernel
theorem dX5_factName_49 : decode cX5_factName 49 = .ok (.ldc 144, 2) := by decide +kernel
theorem dX5_factName_51 : decode cX5_factName 51 = .ok (.areturn, 1) := by decide +kernel
theorem dX5_factName_52 : decode cX5_factName 52 = .ok (.ldc 146, 2) := by decide +kernel
theorem dX5_factName_54 : decode cX5_factName 54 = .ok (.areturn, 1) := by decide +kernel
theorem dX5_factName_55 : decode cX5_factName 55 = .ok (.ldc 148, 2) := by decide +kernel
theorem dX5_factName_57 : decode cX5_factName 57 = .ok (.areturn, 1) := by decide +kernel
theorem dX5_factName_58 : decode cX5_factName 58 = .ok (.ldc 149, 2) := by decide +kernel
theorem dX5_factName_60 : decode cX5_factName 60 = .ok (.areturn, 1) := by decide +kernel
set_option maxRecDepth 20000 in
theorem kb_56_0 : ∀ q ∈ tb_56_0, s_atx 56 yX5_factName cX5_factName q.1 q.2 := (List.forall_mem_cons.mpr ⟨⟨s_ldIn dX5_factName_0 rfl, s_mo_ldI _ _⟩, (List.forall_mem_cons.mpr ⟨⟨s_table dX5_factName_1 (by decide) (by decide) (by decide +kernel), s_mo_table _ _ _⟩, (List.forall_mem_cons.mpr ⟨⟨s_ldcS (tx := "thick") (List.mem_of_getElem? (i := 15) rfl) dX5_factName_40, s_mo_push _ _⟩, (List.forall_mem_cons.mpr ⟨s_r4 mk_56 dX5_factName_42, (List.forall_mem_cons.mpr ⟨⟨s_ldcS (tx := "sand") (List.mem_of_getElem? (i := 16) rfl) dX5_factName_43, s_mo_push _ _⟩, (List.forall_mem_cons.mpr ⟨s_r4 mk_56 dX5_factName_45, (List.forall_mem_cons.mpr ⟨⟨s_ldcS (tx := "cracks") (List.mem_of_getElem? (i := 17) rfl) dX5_factName_46, s_mo_push _ _⟩, (List.forall_mem_cons.mpr ⟨s_r4 mk_56 dX5_factName_48, (List.forall_mem_cons.mpr ⟨⟨s_ldcS (tx := "hour") (List.mem_of_getElem? (i := 18) rfl) dX5_factName_49, s_mo_push _ _⟩, (List.forall_mem_cons.mpr ⟨s_r4 mk_56 dX5_factName_51, (List.forall_mem_cons.mpr ⟨⟨s_ldcS (tx := "light") (List.mem_of_getElem? (i := 19) rfl) dX5_factName_52, s_mo_push _ _⟩, (List.forall_mem_cons.mpr ⟨s_r4 mk_56 dX5_factName_54, (List.forall_mem_cons.mpr ⟨⟨s_ldcS (tx := "owner") (List.mem_of_getElem? (i := 20) rfl) dX5_factName_55, s_mo_push _ _⟩, (List.forall_mem_cons.mpr ⟨s_r4 mk_56 dX5_factName_57, (List.forall_mem_cons.mpr ⟨⟨s_ldcS (tx := "load") (List.mem_of_getElem? (i := 21) rfl) dX5_factName_58, s_mo_push _ _⟩, (List.forall_mem_cons.mpr ⟨s_r4 mk_56 dX5_factName_60, (fun _ h => absurd h List.not_mem_nil)⟩)⟩)⟩)⟩)⟩)⟩)⟩)⟩)⟩)⟩)⟩)⟩)⟩)⟩)⟩)⟩)
theorem km_56 : ∀ t ∈ tm_56, s_tok 56 t := (List.forall_mem_cons.mpr ⟨s_lift mk_56 kb_56_0, (fun _ h => absurd h List.not_mem_nil)⟩)
theorem dX5_keep_0 : decode cX5_keep 0 = .ok (.aload_n 0, 1) := by decide +kernel
theorem dX5_keep_1 : decode cX5_keep 1 = .ok (.getfield 28, 3) := by decide +kernel
theorem dX5_keep_4 : decode cX5_keep 4 = .ok (.aload_n 0, 1) := by decide +kernel
theorem dX5_keep_5 : decode cX5_keep 5 = .ok (.getfield 25, 3) := by decide +kernel
theorem dX5_keep_8 : decode cX5_keep 8 = .ok (.arraylength, 1) := by decide +kernel
theorem dX5_keep_9 : decode cX5_keep 9 = .ok (.if_icmp .ge 23, 3) := by decide +kernel
theorem dX5_keep_12 : decode cX5_keep 12 = .ok (.aload_n 0, 1) := by decide +kernel
theorem dX5_keep_13 : decode cX5_keep 13 = .ok (.getfield 25, 3) := by decide +kernel
theorem dX5_keep_16 : decode cX5_keep 16 = .ok (.aload_n 0, 1) := by decide +kernel
theorem dX5_keep_17 : decode cX5_keep 17 = .ok (.getfield 28, 3) := by decide +kernel
theorem dX5_keep_20 : decode cX5_keep 20 = .ok (.iload_n 1, 1) := by decide +kernel
theorem dX5_keep_21 : decode cX5_keep 21 = .ok (.iastore, 1) := by decide +kernel
theorem dX5_keep_22 : decode cX5_keep 22 = .ok (.aload_n 0, 1) := by decide +kernel
theorem dX5_keep_23 : decode cX5_keep 23 = .ok (.dup, 1) := by decide +kernel
theorem dX5_keep_24 : decode cX5_keep 24 = .ok (.getfield 28, 3) := by decide +kernel
theorem dX5_keep_27 : decode cX5_keep 27 = .ok (.iconst 1, 1) := by decide +kernel
theorem dX5_keep_28 : decode cX5_keep 28 = .ok (.iadd, 1) := by decide +kernel
theorem dX5_keep_29 : decode cX5_keep 29 = .ok (.putfield 28, 3) := by decide +kernel
theorem dX5_keep_32 : decode cX5_keep 32 = .ok (.iconst 1, 1) := by decide +kernel
theorem dX5_keep_33 : decode cX5_keep 33 = .ok (.ireturn, 1) := by decide +kernel
set_option maxRecDepth 20000 in
theorem kb_57_0 : ∀ q ∈ tb_57_0, s_atx 57 yX5_keep cX5_keep q.1 q.2 := (List.forall_mem_cons.mpr ⟨⟨s_ldAn dX5_keep_0 rfl, s_mo_ldA _ _⟩, (List.forall_mem_cons.mpr ⟨⟨s_getf (ci := 2) (k := 5) rfl (by decide) inX5 w_172 dX5_keep_1, s_mo_getf _ _ _⟩, (List.forall_mem_cons.mpr ⟨⟨s_ldAn dX5_keep_4 rfl, s_mo_ldA _ _⟩, (List.forall_mem_cons.mpr ⟨⟨s_getf (ci := 2) (k := 4) rfl (by decide) inX5 w_171 dX5_keep_5, s_mo_getf _ _ _⟩, (List.forall_mem_cons.mpr ⟨⟨s_alen dX5_keep_8, s_mo_alen _⟩, (List.forall_mem_cons.mpr ⟨⟨s_icge dX5_keep_9 (by decide), s_mo_icge _ _⟩, (List.forall_mem_cons.mpr ⟨⟨s_ldAn dX5_keep_12 rfl, s_mo_ldA _ _⟩, (List.forall_mem_cons.mpr ⟨⟨s_getf (ci := 2) (k := 4) rfl (by decide) inX5 w_171 dX5_keep_13, s_mo_getf _ _ _⟩, (List.forall_mem_cons.mpr ⟨⟨s_ldAn dX5_keep_16 rfl, s_mo_ldA _ _⟩, (List.forall_mem_cons.mpr ⟨⟨s_getf (ci := 2) (k := 5) rfl (by decide) inX5 w_172 dX5_keep_17, s_mo_getf _ _ _⟩, (List.forall_mem_cons.mpr ⟨⟨s_ldIn dX5_keep_20 rfl, s_mo_ldI _ _⟩, (List.forall_mem_cons.mpr ⟨⟨s_iast dX5_keep_21, s_mo_iast _⟩, (List.forall_mem_cons.mpr ⟨⟨s_ldAn dX5_keep_22 rfl, s_mo_ldA _ _⟩, (List.forall_mem_cons.mpr ⟨⟨s_dup dX5_keep_23, s_mo_dup _⟩, (List.forall_mem_cons.mpr ⟨⟨s_getf (ci := 2) (k := 5) rfl (by decide) inX5 w_172 dX5_keep_24, s_mo_getf _ _ _⟩, (List.forall_mem_cons.mpr ⟨⟨s_iconst dX5_keep_27 (by decide +kernel), s_mo_push _ _⟩, (List.forall_mem_cons.mpr ⟨⟨s_iadd dX5_keep_28, s_mo_bin _ _⟩, (List.forall_mem_cons.mpr ⟨⟨s_putI (ci := 2) (k := 5) rfl (by decide) inX5 tyX5_ok nmX5 rfl rfl w_172 dX5_keep_29, s_mo_putI _ _ _⟩, (List.forall_mem_cons.mpr ⟨⟨s_iconst dX5_keep_32 (by decide +kernel), s_mo_push _ _⟩, (List.forall_mem_cons.mpr ⟨s_r2 mk_57 dX5_keep_33, (fun _ h => absurd h List.not_mem_nil)⟩)⟩)⟩)⟩)⟩)⟩)⟩)⟩)⟩)⟩)⟩)⟩)⟩)⟩)⟩)⟩)⟩)⟩)⟩)⟩)
theorem km_57 : ∀ t ∈ tm_57, s_tok 57 t := (List.forall_mem_cons.mpr ⟨s_lift mk_57 kb_57_0, (fun _ h => absurd h List.not_mem_nil)⟩)
theorem dX6_init_0 : decode cX6_init 0 = .ok (.aload_n 0, 1) := by decide +kernel
theorem dX6_init_1 : decode cX6_init 1 = .ok (.invokespecial 3, 3) := by decide +kernel
theorem dX6_init_4 : decode cX6_init 4 = .ok (.aload_n 0, 1) := by decide +kernel
theorem dX6_init_5 : decode cX6_init 5 = .ok (.bipush 64, 2) := by decide +kernel
theorem dX6_init_7 : decode cX6_init 7 = .ok (.newarray .long, 2) := by decide +kernel
theorem dX6_init_9 : decode cX6_init 9 = .ok (.putfield 11, 3) := by decide +kernel
theorem dX6_init_12 : decode cX6_init 12 = .ok (.aload_n 0, 1) := by decide +kernel
theorem dX6_init_13 : decode cX6_init 13 = .ok (.iconst 0, 1) := by decide +kernel
theorem dX6_init_14 : decode cX6_init 14 = .ok (.putfield 15, 3) := by decide +kernel
theorem dX6_init_17 : decode cX6_init 17 = .ok (.return_, 1) := by decide +kernel
set_option maxRecDepth 20000 in
theorem kb_58_0 : ∀ q ∈ tb_58_0, s_atx 58 yX6_init cX6_init q.1 q.2 := (List.forall_mem_cons.mpr ⟨⟨s_ldAn dX6_init_0 rfl, s_mo_ldA _ _⟩, (List.forall_mem_cons.mpr ⟨⟨s_oinit w_288 w_oi w_oc dX6_init_1, s_mo_oinit _⟩, (List.forall_mem_cons.mpr ⟨⟨s_ldAn dX6_init_4 rfl, s_mo_ldA _ _⟩, (List.forall_mem_cons.mpr ⟨⟨s_bipush dX6_init_5 (by decide +kernel), s_mo_push _ _⟩, (List.forall_mem_cons.mpr ⟨⟨s_newa (t := 2) (aty := .long) (ty := .long) (by decide) rfl (fun _ => rfl) (fun _ _ h => h) (by decide) (fun _ _ => ⟨_, rfl, rfl⟩) w_arr2 dX6_init_7, s_mo_newa _ _⟩, (List.forall_mem_cons.mpr ⟨⟨s_putAF (ci := 3) (k := 0) rfl (by decide) inX6 tyX6_ok nmX6 rfl rfl rfl (fun _ => rfl) (fun _ => rfl) w_289 dX6_init_9, s_mo_putA _ _ _⟩, (List.forall_mem_cons.mpr ⟨⟨s_ldAn dX6_init_12 rfl, s_mo_ldA _ _⟩, (List.forall_mem_cons.mpr ⟨⟨s_iconst dX6_init_13 (by decide +kernel), s_mo_push _ _⟩, (List.forall_mem_cons.mpr ⟨⟨s_putI (ci := 3) (k := 1) rfl (by decide) inX6 tyX6_ok nmX6 rfl rfl w_290 dX6_init_14, s_mo_putI _ _ _⟩, (List.forall_mem_cons.mpr ⟨s_r0 mk_58 dX6_init_17, (fun _ h => absurd h List.not_mem_nil)⟩)⟩)⟩)⟩)⟩)⟩)⟩)⟩)⟩)⟩)
theorem km_58 : ∀ t ∈ tm_58, s_tok 58 t := (List.forall_mem_cons.mpr ⟨s_lift mk_58 kb_58_0, (fun _ h => absurd h List.not_mem_nil)⟩)
theorem dX6_sell_0 : decode cX6_sell 0 = .ok (.aload_n 0, 1) := by decide +kernel
theorem dX6_sell_1 : decode cX6_sell 1 = .ok (.aload_n 1, 1) := by decide +kernel
theorem dX6_sell_2 : decode cX6_sell 2 = .ok (.getfield 19, 3) := by decide +kernel
theorem dX6_sell_5 : decode cX6_sell 5 = .ok (.putfield 15, 3) := by decide +kernel
theorem dX6_sell_8 : decode cX6_sell 8 = .ok (.aload_n 0, 1) := by decide +kernel
theorem dX6_sell_9 : decode cX6_sell 9 = .ok (.getfield 11, 3) := by decide +kernel
theorem dX6_sell_12 : decode cX6_sell 12 = .ok (.ldc2_w 22, 3) := by decide +kernel
theorem dX6_sell_15 : decode cX6_sell 15 = .ok (.invokestatic 24, 3) := by decide +kernel
theorem dX6_sell_18 : decode cX6_sell 18 = .ok (.aload_n 0, 1) := by decide +kernel
theorem dX6_sell_19 : decode cX6_sell 19 = .ok (.getfield 11, 3) := by decide +kernel
theorem dX6_sell_22 : decode cX6_sell 22 = .ok (.iconst 0, 1) := by decide +kernel
theorem dX6_sell_23 : decode cX6_sell 23 = .ok (.lconst 0, 1) := by decide +kernel
theorem dX6_sell_24 : decode cX6_sell 24 = .ok (.lastore, 1) := by decide +kernel
theorem dX6_sell_25 : decode cX6_sell 25 = .ok (.iconst 0, 1) := by decide +kernel
theorem dX6_sell_26 : decode cX6_sell 26 = .ok (.istore 4, 2) := by decide +kernel
theorem dX6_sell_28 : decode cX6_sell 28 = .ok (.iload 4, 2) := by decide +kernel
theorem dX6_sell_30 : decode cX6_sell 30 = .ok (.aload_n 1, 1) := by decide +kernel
theorem dX6_sell_31 : decode cX6_sell 31 = .ok (.getfield 30, 3) := by decide +kernel
theorem dX6_sell_34 : decode cX6_sell 34 = .ok (.if_icmp .ge 37, 3) := by decide +kernel
theorem dX6_sell_37 : decode cX6_sell 37 = .ok (.aload_n 0, 1) := by decide +kernel
theorem dX6_sell_38 : decode cX6_sell 38 = .ok (.aload_n 1, 1) := by decide +kernel
theorem dX6_sell_39 : decode cX6_sell 39 = .ok (.iload 4, 2) := by decide +kernel
theorem dX6_sell_41 : decode cX6_sell 41 = .ok (.invokevirtual 33, 3) := by decide +kernel
theorem dX6_sell_44 : decode cX6_sell 44 = .ok (.ifCond .eq 21, 3) := by decide +kernel
theorem dX6_sell_47 : decode cX6_sell 47 = .ok (.aload_n 2, 1) := by decide +kernel
theorem dX6_sell_48 : decode cX6_sell 48 = .ok (.aload_n 1, 1) := by decide +kernel
theorem dX6_sell_49 : decode cX6_sell 49 = .ok (.iload 4, 2) := by decide +kernel
theorem dX6_sell_51 : decode cX6_sell 51 = .ok (.iload_n 3, 1) := by decide +kernel
theorem dX6_sell_52 : decode cX6_sell 52 = .ok (.invokevirtual 37, 3) := by decide +kernel
theorem dX6_sell_55 : decode cX6_sell 55 = .ok (.ifCond .eq 10, 3) := by decide +kernel
theorem dX6_sell_58 : decode cX6_sell 58 = .ok (.aload_n 0, 1) := by decide +kernel
theorem dX6_sell_59 : decode cX6_sell 59 = .ok (.aload_n 1, 1) := by decide +kernel
theorem dX6_sell_60 : decode cX6_sell 60 = .ok (.iload 4, 2) := by decide +kernel
theorem dX6_sell_62 : decode cX6_sell 62 = .ok (.invokevirtual 43, 3) := by decide +kernel
theorem dX6_sell_65 : decode cX6_sell 65 = .ok (.iinc 4 1, 3) := by decide +kernel
theorem dX6_sell_68 : decode cX6_sell 68 = .ok (.goto (-40), 3) := by decide +kernel
theorem dX6_sell_71 : decode cX6_sell 71 = .ok (.return_, 1) := by decide +kernel
set_option maxRecDepth 20000 in
theorem kb_59_0 : ∀ q ∈ tb_59_0, s_atx 59 yX6_sell cX6_sell q.1 q.2 := (List.forall_mem_cons.mpr ⟨⟨s_ldAn dX6_sell_0 rfl, s_mo_ldA _ _⟩, (List.forall_mem_cons.mpr ⟨⟨s_ldAn dX6_sell_1 rfl, s_mo_ldA _ _⟩, (List.forall_mem_cons.mpr ⟨⟨s_getf (ci := 0) (k := 14) rfl (by decide) inX0 w_112 dX6_sell_2, s_mo_getf _ _ _⟩, (List.forall_mem_cons.mpr ⟨⟨s_putI (ci := 3) (k := 1) rfl (by decide) inX6 tyX6_ok nmX6 rfl rfl w_290 dX6_sell_5, s_mo_putI _ _ _⟩, (List.forall_mem_cons.mpr ⟨⟨s_ldAn dX6_sell_8 rfl, s_mo_ldA _ _⟩, (List.forall_mem_cons.mpr ⟨⟨s_getf (ci := 3) (k := 0) rfl (by decide) inX6 w_289 dX6_sell_9, s_mo_getf _ _ _⟩, (List.forall_mem_cons.mpr ⟨⟨s_ldc2 w_974 dX6_sell_12, s_mo_push _ _⟩, (List.forall_mem_cons.mpr ⟨⟨s_sS mk_59 mk_261 ok_261 (by decide +kernel) dX6_sell_15 w_975 w_369, s_h0 mk_59⟩, (List.forall_mem_cons.mpr ⟨⟨s_ldAn dX6_sell_18 rfl, s_mo_ldA _ _⟩, (List.forall_mem_cons.mpr ⟨⟨s_getf (ci := 3) (k := 0) rfl (by decide) inX6 w_289 dX6_sell_19, s_mo_getf _ _ _⟩, (List.forall_mem_cons.mpr ⟨⟨s_iconst dX6_sell_22 (by decide +kernel), s_mo_push _ _⟩, (List.forall_mem_cons.mpr ⟨⟨s_lconst dX6_sell_23 (by decide +kernel), s_mo_push _ _⟩, (List.forall_mem_cons.mpr ⟨⟨s_last dX6_sell_24, s_mo_last _⟩, (List.forall_mem_cons.mpr ⟨⟨s_iconst dX6_sell_25 (by decide +kernel), s_mo_push _ _⟩, (List.forall_mem_cons.mpr ⟨⟨s_stI dX6_sell_26, s_mo_stI _ _⟩, (List.forall_mem_cons.mpr ⟨⟨s_ldI dX6_sell_28, s_mo_ldI _ _⟩, (List.forall_mem_cons.mpr ⟨⟨s_ldAn dX6_sell_30 rfl, s_mo_ldA _ _⟩, (List.forall_mem_cons.mpr ⟨⟨s_getf (ci := 0) (k := 2) rfl (by decide) inX0 w_59 dX6_sell_31, s_mo_getf _ _ _⟩, (List.forall_mem_cons.mpr ⟨⟨s_icge dX6_sell_34 (by decide), s_mo_icge _ _⟩, (List.forall_mem_cons.mpr ⟨⟨s_ldAn dX6_sell_37 rfl, s_mo_ldA _ _⟩, (List.forall_mem_cons.mpr ⟨⟨s_ldAn dX6_sell_38 rfl, s_mo_ldA _ _⟩, (List.forall_mem_cons.mpr ⟨⟨s_ldI dX6_sell_39, s_mo_ldI _ _⟩, (List.forall_mem_cons.mpr ⟨⟨s_sV mk_59 mk_60 ok_60 (by decide +kernel) dX6_sell_41 w_976 w_978 wp_14 (Or.inr ⟨3, _, _, rfl, rfl⟩), s_h0 mk_59⟩, (List.forall_mem_cons.mpr ⟨⟨s_ifeq dX6_sell_44 (by decide), s_mo_ifeq _ _⟩, (List.forall_mem_cons.mpr ⟨⟨s_ldAn dX6_sell_47 rfl, s_mo_ldA _ _⟩, (List.forall_mem_cons.mpr ⟨⟨s_ldAn dX6_sell_48 rfl, s_mo_ldA _ _⟩, (List.forall_mem_cons.mpr ⟨⟨s_ldI dX6_sell_49, s_mo_ldI _ _⟩, (List.forall_mem_cons.mpr ⟨⟨s_ldIn dX6_sell_51 rfl, s_mo_ldI _ _⟩, (List.forall_mem_cons.mpr ⟨⟨s_sV mk_59 mk_45 ok_45 (by decide +kernel) dX6_sell_52 w_980 w_913 w_914 (Or.inr ⟨2, _, _, rfl, rfl⟩), s_h0 mk_59⟩, (List.forall_mem_cons.mpr ⟨⟨s_ifeq dX6_sell_55 (by decide), s_mo_ifeq _ _⟩, (List.forall_mem_cons.mpr ⟨⟨s_ldAn dX6_sell_58 rfl, s_mo_ldA _ _⟩, (List.forall_mem_cons.mpr ⟨⟨s_ldAn dX6_sell_59 rfl, s_mo_ldA _ _⟩, (List.forall_mem_cons.mpr ⟨⟨s_ldI dX6_sell_60, s_mo_ldI _ _⟩, (List.forall_mem_cons.mpr ⟨⟨s_sV mk_59 mk_61 ok_61 (by decide +kernel) dX6_sell_62 w_981 w_983 wp_15 (Or.inr ⟨3, _, _, rfl, rfl⟩), s_h0 mk_59⟩, (fun _ h => absurd h List.not_mem_nil)⟩)⟩)⟩)⟩)⟩)⟩)⟩)⟩)⟩)⟩)⟩)⟩)⟩)⟩)⟩)⟩)⟩)⟩)⟩)⟩)⟩)⟩)⟩)⟩)⟩)⟩)⟩)⟩)⟩)⟩)⟩)⟩)⟩)⟩)
set_option maxRecDepth 20000 in
theorem kb_59_1 : ∀ q ∈ tb_59_1, s_atx 59 yX6_sell cX6_sell q.1 q.2 := (List.forall_mem_cons.mpr ⟨⟨s_inc dX6_sell_65 (by decide +kernel), s_mo_inc _ _ _⟩, (List.forall_mem_cons.mpr ⟨⟨s_goto dX6_sell_68 (by decide), s_mo_goto _⟩, (List.forall_mem_cons.mpr ⟨s_r0 mk_59 dX6_sell_71, (fun _ h => absurd h List.not_mem_nil)⟩)⟩)⟩)
theorem km_59 : ∀ t ∈ tm_59, s_tok 59 t := (List.forall_mem_cons.mpr ⟨s_lift mk_59 kb_59_0, (List.forall_mem_cons.mpr ⟨s_lift mk_59 kb_59_1, (fun _ h => absurd h List.not_mem_nil)⟩)⟩)
theorem dX6_isWanted_0 : decode cX6_isWanted 0 = .ok (.iconst 0, 1) := by decide +kernel
theorem dX6_isWanted_1 : decode cX6_isWanted 1 = .ok (.istore_n 3, 1) := by decide +kernel
theorem dX6_isWanted_2 : decode cX6_isWanted 2 = .ok (.iload_n 3, 1) := by decide +kernel
theorem dX6_isWanted_3 : decode cX6_isWanted 3 = .ok (.aload_n 0, 1) := by decide +kernel
theorem dX6_isWanted_4 : decode cX6_isWanted 4 = .ok (.getfield 15, 3) := by decide +kernel
theorem dX6_isWanted_7 : decode cX6_isWanted 7 = .ok (.if_icmp .ge 25, 3) := by decide +kernel
theorem dX6_isWanted_10 : decode cX6_isWanted 10 = .ok (.aload_n 1, 1) := by decide +kernel
theorem dX6_isWanted_11 : decode cX6_isWanted 11 = .ok (.getfield 47, 3) := by decide +kernel
theorem dX6_isWanted_14 : decode cX6_isWanted 14 = .ok (.bipush 30, 2) := by decide +kernel
theorem dX6_isWanted_16 : decode cX6_isWanted 16 = .ok (.iload_n 3, 1) := by decide +kernel
theorem dX6_isWanted_17 : decode cX6_isWanted 17 = .ok (.imul, 1) := by decide +kernel
theorem dX6_isWanted_18 : decode cX6_isWanted 18 = .ok (.iload_n 2, 1) := by decide +kernel
theorem dX6_isWanted_19 : decode cX6_isWanted 19 = .ok (.iadd, 1) := by decide +kernel
theorem dX6_isWanted_20 : decode cX6_isWanted 20 = .ok (.iaload, 1) := by decide +kernel
theorem dX6_isWanted_21 : decode cX6_isWanted 21 = .ok (.ifCond .le 5, 3) := by decide +kernel
theorem dX6_isWanted_24 : decode cX6_isWanted 24 = .ok (.iconst 1, 1) := by decide +kernel
theorem dX6_isWanted_25 : decode cX6_isWanted 25 = .ok (.ireturn, 1) := by decide +kernel
theorem dX6_isWanted_26 : decode cX6_isWanted 26 = .ok (.iinc 3 1, 3) := by decide +kernel
theorem dX6_isWanted_29 : decode cX6_isWanted 29 = .ok (.goto (-27), 3) := by decide +kernel
theorem dX6_isWanted_32 : decode cX6_isWanted 32 = .ok (.iconst 0, 1) := by decide +kernel
theorem dX6_isWanted_33 : decode cX6_isWanted 33 = .ok (.ireturn, 1) := by decide +kernel
set_option maxRecDepth 20000 in
theorem kb_60_0 : ∀ q ∈ tb_60_0, s_atx 60 yX6_isWanted cX6_isWanted q.1 q.2 := (List.forall_mem_cons.mpr ⟨⟨s_iconst dX6_isWanted_0 (by decide +kernel), s_mo_push _ _⟩, (List.forall_mem_cons.mpr ⟨⟨s_stIn dX6_isWanted_1 rfl, s_mo_stI _ _⟩, (List.forall_mem_cons.mpr ⟨⟨s_ldIn dX6_isWanted_2 rfl, s_mo_ldI _ _⟩, (List.forall_mem_cons.mpr ⟨⟨s_ldAn dX6_isWanted_3 rfl, s_mo_ldA _ _⟩, (List.forall_mem_cons.mpr ⟨⟨s_getf (ci := 3) (k := 1) rfl (by decide) inX6 w_290 dX6_isWanted_4, s_mo_getf _ _ _⟩, (List.forall_mem_cons.mpr ⟨⟨s_icge dX6_isWanted_7 (by decide), s_mo_icge _ _⟩, (List.forall_mem_cons.mpr ⟨⟨s_ldAn dX6_isWanted_10 rfl, s_mo_ldA _ _⟩, (List.forall_mem_cons.mpr ⟨⟨s_getf (ci := 0) (k := 15) rfl (by decide) inX0 w_115 dX6_isWanted_11, s_mo_getf _ _ _⟩, (List.forall_mem_cons.mpr ⟨⟨s_bipush dX6_isWanted_14 (by decide +kernel), s_mo_push _ _⟩, (List.forall_mem_cons.mpr ⟨⟨s_ldIn dX6_isWanted_16 rfl, s_mo_ldI _ _⟩, (List.forall_mem_cons.mpr ⟨⟨s_imul dX6_isWanted_17, s_mo_bin _ _⟩, (List.forall_mem_cons.mpr ⟨⟨s_ldIn dX6_isWanted_18 rfl, s_mo_ldI _ _⟩, (List.forall_mem_cons.mpr ⟨⟨s_iadd dX6_isWanted_19, s_mo_bin _ _⟩, (List.forall_mem_cons.mpr ⟨⟨s_iald dX6_isWanted_20, s_mo_iald _⟩, (List.forall_mem_cons.mpr ⟨⟨s_ifle dX6_isWanted_21 (by decide), s_mo_ifle _ _⟩, (List.forall_mem_cons.mpr ⟨⟨s_iconst dX6_isWanted_24 (by decide +kernel), s_mo_push _ _⟩, (List.forall_mem_cons.mpr ⟨s_r2 mk_60 dX6_isWanted_25, (List.forall_mem_cons.mpr ⟨⟨s_inc dX6_isWanted_26 (by decide +kernel), s_mo_inc _ _ _⟩, (List.forall_mem_cons.mpr ⟨⟨s_goto dX6_isWanted_29 (by decide), s_mo_goto _⟩, (List.forall_mem_cons.mpr ⟨⟨s_iconst dX6_isWanted_32 (by decide +kernel), s_mo_push _ _⟩, (List.forall_mem_cons.mpr ⟨s_r2 mk_60 dX6_isWanted_33, (fun _ h => absurd h List.not_mem_nil)⟩)⟩)⟩)⟩)⟩)⟩)⟩)⟩)⟩)⟩)⟩)⟩)⟩)⟩)⟩)⟩)⟩)⟩)⟩)⟩)⟩)
theorem km_60 : ∀ t ∈ tm_60, s_tok 60 t := (List.forall_mem_cons.mpr ⟨s_lift mk_60 kb_60_0, (fun _ h => absurd h List.not_mem_nil)⟩)
theorem dX6_add_0 : decode cX6_add 0 = .ok (.iconst 1, 1) := by decide +kernel
theorem dX6_add_1 : decode cX6_add 1 = .ok (.aload_n 0, 1) := by decide +kernel
theorem dX6_add_2 : decode cX6_add 2 = .ok (.getfield 15, 3) := by decide +kernel
theorem dX6_add_5 : decode cX6_add 5 = .ok (.ishl, 1) := by decide +kernel
theorem dX6_add_6 : decode cX6_add 6 = .ok (.iconst 1, 1) := by decide +kernel
theorem dX6_add_7 : decode cX6_add 7 = .ok (.isub, 1) := by decide +kernel
theorem dX6_add_8 : decode cX6_add 8 = .ok (.istore_n 3, 1) := by decide +kernel
theorem dX6_add_9 : decode cX6_add 9 = .ok (.iload_n 3, 1) := by decide +kernel
theorem dX6_add_10 : decode cX6_add 10 = .ok (.ifCond .le 117, 3) := by decide +kernel
theorem dX6_add_13 : decode cX6_add 13 = .ok (.iconst 0, 1) := by decide +kernel
theorem dX6_add_14 : decode cX6_add 14 = .ok (.istore 4, 2) := by decide +kernel
theorem dX6_add_16 : decode cX6_add 16 = .ok (.iload 4, 2) := by decide +kernel
theorem dX6_add_18 : decode cX6_add 18 = .ok (.aload_n 0, 1) := by decide +kernel
theorem dX6_add_19 : decode cX6_add 19 = .ok (.getfield 15, 3) := by decide +kernel
theorem dX6_add_22 : decode cX6_add 22 = .ok (.if_icmp .ge 99, 3) := by decide +kernel
theorem dX6_add_25 : decode cX6_add 25 = .ok (.aload_n 1, 1) := by decide +kernel
theorem dX6_add_26 : decode cX6_add 26 = .ok (.getfield 47, 3) := by decide +kernel
theorem dX6_add_29 : decode cX6_add 29 = .ok (.bipush 30, 2) := by decide +kernel
theorem dX6_add_31 : decode cX6_add 31 = .ok (.iload 4, 2) := by decide +kernel
theorem dX6_add_33 : decode cX6_add 33 = .ok (.imul, 1) := by decide +kernel
theorem dX6_add_34 : decode cX6_add 34 = .ok (.iload_n 2, 1) := by decide +kernel
theorem dX6_add_35 : decode cX6_add 35 = .ok (.iadd, 1) := by decide +kernel
theorem dX6_add_36 : decode cX6_add 36 = .ok (.iaload, 1) := by decide +kernel
theorem dX6_add_37 : decode cX6_add 37 = .ok (.istore 5, 2) := by decide +kernel
theorem dX6_add_39 : decode cX6_add 39 = .ok (.iload 5, 2) := by decide +kernel
theorem dX6_add_41 : decode cX6_add 41 = .ok (.ifCond .eq 74, 3) := by decide +kernel
theorem dX6_add_44 : decode cX6_add 44 = .ok (.iload_n 3, 1) := by decide +kernel
theorem dX6_add_45 : decode cX6_add 45 = .ok (.iload 4, 2) := by decide +kernel
theorem dX6_add_47 : decode cX6_add 47 = .ok (.ishr, 1) := by decide +kernel
theorem dX6_add_48 : decode cX6_add 48 = .ok (.iconst 1, 1) := by decide +kernel
theorem dX6_add_49 : decode cX6_add 49 = .ok (.iand, 1) := by decide +kernel
theorem dX6_add_50 : decode cX6_add 50 = .ok (.ifCond .ne 6, 3) := by decide +kernel
theorem dX6_add_53 : decode cX6_add 53 = .ok (.goto 62, 3) := by decide +kernel
theorem dX6_add_56 : decode cX6_add 56 = .ok (.aload_n 0, 1) := by decide +kernel
theorem dX6_add_57 : decode cX6_add 57 = .ok (.getfield 11, 3) := by decide +kernel
theorem dX6_add_60 : decode cX6_add 60 = .ok (.iload_n 3, 1) := by decide +kernel
theorem dX6_add_61 : decode cX6_add 61 = .ok (.iconst 1, 1) := by decide +kernel
theorem dX6_add_62 : decode cX6_add 62 = .ok (.iload 4, 2) := by decide +kernel
theorem dX6_add_64 : decode cX6_add 64 = .ok (.ishl, 1) := by decide +kernel
theorem dX6_add_65 : decode cX6_add 65 = .ok (.iconst (-1), 1) := by decide +kernel
theorem dX6_add_66 : decode cX6_add 66 = .ok (.ixor, 1) := by decide +kernel
theorem dX6_add_67 : decode cX6_add 67 = .ok (.iand, 1) := by decide +kernel
theorem dX6_add_68 : decode cX6_add 68 = .ok (.laload, 1) := by decide +kernel
theorem dX6_add_69 : decode cX6_add 69 = .ok (.lstore 6, 2) := by decide +kernel
theorem dX6_add_71 : decode cX6_add 71 = .ok (.lload 6, 2) := by decide +kernel
theorem dX6_add_73 : decode cX6_add 73 = .ok (.lconst 0, 1) := by decide +kernel
theorem dX6_add_74 : decode cX6_add 74 = .ok (.lcmp, 1) := by decide +kernel
theorem dX6_add_75 : decode cX6_add 75 = .ok (.ifCond .lt 40, 3) := by decide +kernel
theorem dX6_add_78 : decode cX6_add 78 = .ok (.aload_n 0, 1) := by decide +kernel
theorem dX6_add_79 : decode cX6_add 79 = .ok (.getfield 11, 3) := by decide +kernel
theorem dX6_add_82 : decode cX6_add 82 = .ok (.iload_n 3, 1) := by decide +kernel
theorem dX6_add_83 : decode cX6_add 83 = .ok (.aload_n 0, 1) := by decide +kernel
theorem dX6_add_84 : decode cX6_add 84 = .ok (.getfield 11, 3) := by decide +kernel
theorem dX6_add_87 : decode cX6_add 87 = .ok (.iload_n 3, 1) := by decide +kernel
theorem dX6_add_88 : decode cX6_add 88 = .ok (.laload, 1) := by decide +kernel
theorem dX6_add_89 : decode cX6_add 89 = .ok (.lload 6, 2) := by decide +kernel
theorem dX6_add_91 : decode cX6_add 91 = .ok (.iload 5, 2) := by decide +kernel
theorem dX6_add_93 : decode cX6_add 93 = .ok (.i2l, 1) := by decide +kernel
theorem dX6_add_94 : decode cX6_add 94 = .ok (.ldc2_w 51, 3) := by decide +kernel
theorem dX6_add_97 : decode cX6_add 97 = .ok (.lmul, 1) := by decide +kernel
theorem dX6_add_98 : decode cX6_add 98 = .ok (.ladd, 1) := by decide +kernel
theorem dX6_add_99 : decode cX6_add 99 = .ok (.iload_n 2, 1) := by decide +kernel
theorem dX6_add_100 : decode cX6_add 100 = .ok (.iconst 1, 1) := by decide +kernel
theorem dX6_add_101 : decode cX6_add 101 = .ok (.iadd, 1) := by decide +kernel
theorem dX6_add_102 : decode cX6_add 102 = .ok (.i2l, 1) := by decide +kernel
theorem dX6_add_103 : decode cX6_add 103 = .ok (.getstatic 53, 3) := by decide +kernel
theorem dX6_add_106 : decode cX6_add 106 = .ok (.iload 4, 2) := by decide +kernel
theorem dX6_add_108 : decode cX6_add 108 = .ok (.laload, 1) := by decide +kernel
theorem dX6_add_109 : decode cX6_add 109 = .ok (.lmul, 1) := by decide +kernel
theorem dX6_add_110 : decode cX6_add 110 = .ok (.lsub, 1) := by decide +kernel
theorem dX6_add_111 : decode cX6_add 111 = .ok (.invokestatic 56, 3) := by decide +kernel
theorem dX6_add_114 : decode cX6_add 114 = .ok (.lastore, 1) := by decide +kernel
theorem dX6_add_115 : decode cX6_add 115 = .ok (.iinc 4 1, 3) := by decide +kernel
theorem dX6_add_118 : decode cX6_add 118 = .ok (.goto (-102), 3) := by decide +kernel
theorem dX6_add_121 : decode cX6_add 121 = .ok (.iinc 3 (-1), 3) := by decide +kernel
theorem dX6_add_124 : decode cX6_add 124 = .ok (.goto (-115), 3) := by decide +kernel
theorem dX6_add_127 : decode cX6_add 127 = .ok (.return_, 1) := by decide +kernel
set_option maxRecDepth 20000 in
theorem kb_61_0 : ∀ q ∈ tb_61_0, s_atx 61 yX6_add cX6_add q.1 q.2 := (List.forall_mem_cons.mpr ⟨⟨s_iconst dX6_add_0 (by decide +kernel), s_mo_push _ _⟩, (List.forall_mem_cons.mpr ⟨⟨s_ldAn dX6_add_1 rfl, s_mo_ldA _ _⟩, (List.forall_mem_cons.mpr ⟨⟨s_getf (ci := 3) (k := 1) rfl (by decide) inX6 w_290 dX6_add_2, s_mo_getf _ _ _⟩, (List.forall_mem_cons.mpr ⟨⟨s_ishl dX6_add_5, s_mo_bin _ _⟩, (List.forall_mem_cons.mpr ⟨⟨s_iconst dX6_add_6 (by decide +kernel), s_mo_push _ _⟩, (List.forall_mem_cons.mpr ⟨⟨s_isub dX6_add_7, s_mo_bin _ _⟩, (List.forall_mem_cons.mpr ⟨⟨s_stIn dX6_add_8 rfl, s_mo_stI _ _⟩, (List.forall_mem_cons.mpr ⟨⟨s_ldIn dX6_add_9 rfl, s_mo_ldI _ _⟩, (List.forall_mem_cons.mpr ⟨⟨s_ifle dX6_add_10 (by decide), s_mo_ifle _ _⟩, (List.forall_mem_cons.mpr ⟨⟨s_iconst dX6_add_13 (by decide +kernel), s_mo_push _ _⟩, (List.forall_mem_cons.mpr ⟨⟨s_stI dX6_add_14, s_mo_stI _ _⟩, (List.forall_mem_cons.mpr ⟨⟨s_ldI dX6_add_16, s_mo_ldI _ _⟩, (List.forall_mem_cons.mpr ⟨⟨s_ldAn dX6_add_18 rfl, s_mo_ldA _ _⟩, (List.forall_mem_cons.mpr ⟨⟨s_getf (ci := 3) (k := 1) rfl (by decide) inX6 w_290 dX6_add_19, s_mo_getf _ _ _⟩, (List.forall_mem_cons.mpr ⟨⟨s_icge dX6_add_22 (by decide), s_mo_icge _ _⟩, (List.forall_mem_cons.mpr ⟨⟨s_ldAn dX6_add_25 rfl, s_mo_ldA _ _⟩, (List.forall_mem_cons.mpr ⟨⟨s_getf (ci := 0) (k := 15) rfl (by decide) inX0 w_115 dX6_add_26, s_mo_getf _ _ _⟩, (List.forall_mem_cons.mpr ⟨⟨s_bipush dX6_add_29 (by decide +kernel), s_mo_push _ _⟩, (List.forall_mem_cons.mpr ⟨⟨s_ldI dX6_add_31, s_mo_ldI _ _⟩, (List.forall_mem_cons.mpr ⟨⟨s_imul dX6_add_33, s_mo_bin _ _⟩, (List.forall_mem_cons.mpr ⟨⟨s_ldIn dX6_add_34 rfl, s_mo_ldI _ _⟩, (List.forall_mem_cons.mpr ⟨⟨s_iadd dX6_add_35, s_mo_bin _ _⟩, (List.forall_mem_cons.mpr ⟨⟨s_iald dX6_add_36, s_mo_iald _⟩, (List.forall_mem_cons.mpr ⟨⟨s_stI dX6_add_37, s_mo_stI _ _⟩, (List.forall_mem_cons.mpr ⟨⟨s_ldI dX6_add_39, s_mo_ldI _ _⟩, (List.forall_mem_cons.mpr ⟨⟨s_ifeq dX6_add_41 (by decide), s_mo_ifeq _ _⟩, (List.forall_mem_cons.mpr ⟨⟨s_ldIn dX6_add_44 rfl, s_mo_ldI _ _⟩, (List.forall_mem_cons.mpr ⟨⟨s_ldI dX6_add_45, s_mo_ldI _ _⟩, (List.forall_mem_cons.mpr ⟨⟨s_ishr dX6_add_47, s_mo_bin _ _⟩, (List.forall_mem_cons.mpr ⟨⟨s_iconst dX6_add_48 (by decide +kernel), s_mo_push _ _⟩, (List.forall_mem_cons.mpr ⟨⟨s_iand dX6_add_49, s_mo_bin _ _⟩, (List.forall_mem_cons.mpr ⟨⟨s_ifne dX6_add_50 (by decide), s_mo_ifne _ _⟩, (List.forall_mem_cons.mpr ⟨⟨s_goto dX6_add_53 (by decide), s_mo_goto _⟩, (List.forall_mem_cons.mpr ⟨⟨s_ldAn dX6_add_56 rfl, s_mo_ldA _ _⟩, (List.forall_mem_cons.mpr ⟨⟨s_getf (ci := 3) (k := 0) rfl (by decide) inX6 w_289 dX6_add_57, s_mo_getf _ _ _⟩, (List.forall_mem_cons.mpr ⟨⟨s_ldIn dX6_add_60 rfl, s_mo_ldI _ _⟩, (List.forall_mem_cons.mpr ⟨⟨s_iconst dX6_add_61 (by decide +kernel), s_mo_push _ _⟩, (List.forall_mem_cons.mpr ⟨⟨s_ldI dX6_add_62, s_mo_ldI _ _⟩, (fun _ h => absurd h List.not_mem_nil)⟩)⟩)⟩)⟩)⟩)⟩)⟩)⟩)⟩)⟩)⟩)⟩)⟩)⟩)⟩)⟩)⟩)⟩)⟩)⟩)⟩)⟩)⟩)⟩)⟩)⟩)⟩)⟩)⟩)⟩)⟩)⟩)⟩)⟩)⟩)⟩)⟩)⟩)
set_option maxRecDepth 20000 in
theorem kb_61_1 : ∀ q ∈ tb_61_1, s_atx 61 yX6_add cX6_add q.1 q.2 := (List.forall_mem_cons.mpr ⟨⟨s_ishl dX6_add_64, s_mo_bin _ _⟩, (List.forall_mem_cons.mpr ⟨⟨s_iconst dX6_add_65 (by decide +kernel), s_mo_push _ _⟩, (List.forall_mem_cons.mpr ⟨⟨s_ixor dX6_add_66, s_mo_bin _ _⟩, (List.forall_mem_cons.mpr ⟨⟨s_iand dX6_add_67, s_mo_bin _ _⟩, (List.forall_mem_cons.mpr ⟨⟨s_lald dX6_add_68, s_mo_lald _⟩, (List.forall_mem_cons.mpr ⟨⟨s_stL dX6_add_69, s_mo_stL _ _⟩, (List.forall_mem_cons.mpr ⟨⟨s_ldL dX6_add_71, s_mo_ldL _ _⟩, (List.forall_mem_cons.mpr ⟨⟨s_lconst dX6_add_73 (by decide +kernel), s_mo_push _ _⟩, (List.forall_mem_cons.mpr ⟨⟨s_lcmp dX6_add_74, s_mo_lcmp _⟩, (List.forall_mem_cons.mpr ⟨⟨s_iflt dX6_add_75 (by decide), s_mo_iflt _ _⟩, (List.forall_mem_cons.mpr ⟨⟨s_ldAn dX6_add_78 rfl, s_mo_ldA _ _⟩, (List.forall_mem_cons.mpr ⟨⟨s_getf (ci := 3) (k := 0) rfl (by decide) inX6 w_289 dX6_add_79, s_mo_getf _ _ _⟩, (List.forall_mem_cons.mpr ⟨⟨s_ldIn dX6_add_82 rfl, s_mo_ldI _ _⟩, (List.forall_mem_cons.mpr ⟨⟨s_ldAn dX6_add_83 rfl, s_mo_ldA _ _⟩, (List.forall_mem_cons.mpr ⟨⟨s_getf (ci := 3) (k := 0) rfl (by decide) inX6 w_289 dX6_add_84, s_mo_getf _ _ _⟩, (List.forall_mem_cons.mpr ⟨⟨s_ldIn dX6_add_87 rfl, s_mo_ldI _ _⟩, (List.forall_mem_cons.mpr ⟨⟨s_lald dX6_add_88, s_mo_lald _⟩, (List.forall_mem_cons.mpr ⟨⟨s_ldL dX6_add_89, s_mo_ldL _ _⟩, (List.forall_mem_cons.mpr ⟨⟨s_ldI dX6_add_91, s_mo_ldI _ _⟩, (List.forall_mem_cons.mpr ⟨⟨s_i2l dX6_add_93, s_mo_i2l _⟩, (List.forall_mem_cons.mpr ⟨⟨s_ldc2 w_985 dX6_add_94, s_mo_push _ _⟩, (List.forall_mem_cons.mpr ⟨⟨s_lmul dX6_add_97, s_mo_binL _ _⟩, (List.forall_mem_cons.mpr ⟨⟨s_ladd dX6_add_98, s_mo_binL _ _⟩, (List.forall_mem_cons.mpr ⟨⟨s_ldIn dX6_add_99 rfl, s_mo_ldI _ _⟩, (List.forall_mem_cons.mpr ⟨⟨s_iconst dX6_add_100 (by decide +kernel), s_mo_push _ _⟩, (List.forall_mem_cons.mpr ⟨⟨s_iadd dX6_add_101, s_mo_bin _ _⟩, (List.forall_mem_cons.mpr ⟨⟨s_i2l dX6_add_102, s_mo_i2l _⟩, (List.forall_mem_cons.mpr ⟨⟨s_gets (C0 := "GlassCity$Market") (n := "PLACES") (d := "[J") (List.mem_of_getElem? (i := 0) rfl) w_986 dX6_add_103, s_mo_gst _ _⟩, (List.forall_mem_cons.mpr ⟨⟨s_ldI dX6_add_106, s_mo_ldI _ _⟩, (List.forall_mem_cons.mpr ⟨⟨s_laldO dX6_add_108, s_mo_laldO _⟩, (List.forall_mem_cons.mpr ⟨⟨s_lmul dX6_add_109, s_mo_binL _ _⟩, (List.forall_mem_cons.mpr ⟨⟨s_lsub dX6_add_110, s_mo_binL _ _⟩, (List.forall_mem_cons.mpr ⟨⟨s_mxL w_988 ws_mxL w_mi wc_mxL dX6_add_111, s_mo_mxL _⟩, (List.forall_mem_cons.mpr ⟨⟨s_last dX6_add_114, s_mo_last _⟩, (List.forall_mem_cons.mpr ⟨⟨s_inc dX6_add_115 (by decide +kernel), s_mo_inc _ _ _⟩, (List.forall_mem_cons.mpr ⟨⟨s_goto dX6_add_118 (by decide), s_mo_goto _⟩, (List.forall_mem_cons.mpr ⟨⟨s_inc dX6_add_121 (by decide +kernel), s_mo_inc _ _ _⟩, (List.forall_mem_cons.mpr ⟨⟨s_goto dX6_add_124 (by decide), s_mo_goto _⟩, (List.forall_mem_cons.mpr ⟨s_r0 mk_61 dX6_add_127, (fun _ h => absurd h List.not_mem_nil)⟩)⟩)⟩)⟩)⟩)⟩)⟩)⟩)⟩)⟩)⟩)⟩)⟩)⟩)⟩)⟩)⟩)⟩)⟩)⟩)⟩)⟩)⟩)⟩)⟩)⟩)⟩)⟩)⟩)⟩)⟩)⟩)⟩)⟩)⟩)⟩)⟩)⟩)⟩)
theorem km_61 : ∀ t ∈ tm_61, s_tok 61 t := (List.forall_mem_cons.mpr ⟨s_lift mk_61 kb_61_0, (List.forall_mem_cons.mpr ⟨s_lift mk_61 kb_61_1, (fun _ h => absurd h List.not_mem_nil)⟩)⟩)
theorem dX6_bestWithout_0 : decode cX6_bestWithout 0 = .ok (.lconst 0, 1) := by decide +kernel
theorem dX6_bestWithout_1 : decode cX6_bestWithout 1 = .ok (.lstore_n 2, 1) := by decide +kernel
theorem dX6_bestWithout_2 : decode cX6_bestWithout 2 = .ok (.iconst 0, 1) := by decide +kernel
theorem dX6_bestWithout_3 : decode cX6_bestWithout 3 = .ok (.istore 4, 2) := by decide +kernel
theorem dX6_bestWithout_5 : decode cX6_bestWithout 5 = .ok (.iload 4, 2) := by decide +kernel
theorem dX6_bestWithout_7 : decode cX6_bestWithout 7 = .ok (.iconst 1, 1) := by decide +kernel
theorem dX6_bestWithout_8 : decode cX6_bestWithout 8 = .ok (.aload_n 0, 1) := by decide +kernel
theorem dX6_bestWithout_9 : decode cX6_bestWithout 9 = .ok (.getfield 15, 3) := by decide +kernel
theorem dX6_bestWithout_12 : decode cX6_bestWithout 12 = .ok (.ishl, 1) := by decide +kernel
theorem dX6_bestWithout_13 : decode cX6_bestWithout 13 = .ok (.if_icmp .ge 28, 3) := by decide +kernel
theorem dX6_bestWithout_16 : decode cX6_bestWithout 16 = .ok (.iload 4, 2) := by decide +kernel
theorem dX6_bestWithout_18 : decode cX6_bestWithout 18 = .ok (.iload_n 1, 1) := by decide +kernel
theorem dX6_bestWithout_19 : decode cX6_bestWithout 19 = .ok (.iand, 1) := by decide +kernel
theorem dX6_bestWithout_20 : decode cX6_bestWithout 20 = .ok (.ifCond .ne 15, 3) := by decide +kernel
theorem dX6_bestWithout_23 : decode cX6_bestWithout 23 = .ok (.lload_n 2, 1) := by decide +kernel
theorem dX6_bestWithout_24 : decode cX6_bestWithout 24 = .ok (.aload_n 0, 1) := by decide +kernel
theorem dX6_bestWithout_25 : decode cX6_bestWithout 25 = .ok (.getfield 11, 3) := by decide +kernel
theorem dX6_bestWithout_28 : decode cX6_bestWithout 28 = .ok (.iload 4, 2) := by decide +kernel
theorem dX6_bestWithout_30 : decode cX6_bestWithout 30 = .ok (.laload, 1) := by decide +kernel
theorem dX6_bestWithout_31 : decode cX6_bestWithout 31 = .ok (.invokestatic 56, 3) := by decide +kernel
theorem dX6_bestWithout_34 : decode cX6_bestWithout 34 = .ok (.lstore_n 2, 1) := by decide +kernel
theorem dX6_bestWithout_35 : decode cX6_bestWithout 35 = .ok (.iinc 4 1, 3) := by decide +kernel
theorem dX6_bestWithout_38 : decode cX6_bestWithout 38 = .ok (.goto (-33), 3) := by decide +kernel
theorem dX6_bestWithout_41 : decode cX6_bestWithout 41 = .ok (.lload_n 2, 1) := by decide +kernel
theorem dX6_bestWithout_42 : decode cX6_bestWithout 42 = .ok (.lreturn, 1) := by decide +kernel
set_option maxRecDepth 20000 in
theorem kb_62_0 : ∀ q ∈ tb_62_0, s_atx 62 yX6_bestWithout cX6_bestWithout q.1 q.2 := (List.forall_mem_cons.mpr ⟨⟨s_lconst dX6_bestWithout_0 (by decide +kernel), s_mo_push _ _⟩, (List.forall_mem_cons.mpr ⟨⟨s_stLn dX6_bestWithout_1 rfl, s_mo_stL _ _⟩, (List.forall_mem_cons.mpr ⟨⟨s_iconst dX6_bestWithout_2 (by decide +kernel), s_mo_push _ _⟩, (List.forall_mem_cons.mpr ⟨⟨s_stI dX6_bestWithout_3, s_mo_stI _ _⟩, (List.forall_mem_cons.mpr ⟨⟨s_ldI dX6_bestWithout_5, s_mo_ldI _ _⟩, (List.forall_mem_cons.mpr ⟨⟨s_iconst dX6_bestWithout_7 (by decide +kernel), s_mo_push _ _⟩, (List.forall_mem_cons.mpr ⟨⟨s_ldAn dX6_bestWithout_8 rfl, s_mo_ldA _ _⟩, (List.forall_mem_cons.mpr ⟨⟨s_getf (ci := 3) (k := 1) rfl (by decide) inX6 w_290 dX6_bestWithout_9, s_mo_getf _ _ _⟩, (List.forall_mem_cons.mpr ⟨⟨s_ishl dX6_bestWithout_12, s_mo_bin _ _⟩, (List.forall_mem_cons.mpr ⟨⟨s_icge dX6_bestWithout_13 (by decide), s_mo_icge _ _⟩, (List.forall_mem_cons.mpr ⟨⟨s_ldI dX6_bestWithout_16, s_mo_ldI _ _⟩, (List.forall_mem_cons.mpr ⟨⟨s_ldIn dX6_bestWithout_18 rfl, s_mo_ldI _ _⟩, (List.forall_mem_cons.mpr ⟨⟨s_iand dX6_bestWithout_19, s_mo_bin _ _⟩, (List.forall_mem_cons.mpr ⟨⟨s_ifne dX6_bestWithout_20 (by decide), s_mo_ifne _ _⟩, (List.forall_mem_cons.mpr ⟨⟨s_ldLn dX6_bestWithout_23 rfl, s_mo_ldL _ _⟩, (List.forall_mem_cons.mpr ⟨⟨s_ldAn dX6_bestWithout_24 rfl, s_mo_ldA _ _⟩, (List.forall_mem_cons.mpr ⟨⟨s_getf (ci := 3) (k := 0) rfl (by decide) inX6 w_289 dX6_bestWithout_25, s_mo_getf _ _ _⟩, (List.forall_mem_cons.mpr ⟨⟨s_ldI dX6_bestWithout_28, s_mo_ldI _ _⟩, (List.forall_mem_cons.mpr ⟨⟨s_lald dX6_bestWithout_30, s_mo_lald _⟩, (List.forall_mem_cons.mpr ⟨⟨s_mxL w_988 ws_mxL w_mi wc_mxL dX6_bestWithout_31, s_mo_mxL _⟩, (List.forall_mem_cons.mpr ⟨⟨s_stLn dX6_bestWithout_34 rfl, s_mo_stL _ _⟩, (List.forall_mem_cons.mpr ⟨⟨s_inc dX6_bestWithout_35 (by decide +kernel), s_mo_inc _ _ _⟩, (List.forall_mem_cons.mpr ⟨⟨s_goto dX6_bestWithout_38 (by decide), s_mo_goto _⟩, (List.forall_mem_cons.mpr ⟨⟨s_ldLn dX6_bestWithout_41 rfl, s_mo_ldL _ _⟩, (List.forall_mem_cons.mpr ⟨s_r3 mk_62 dX6_bestWithout_42, (fun _ h => absurd h List.not_mem_nil)⟩)⟩)⟩)⟩)⟩)⟩)⟩)⟩)⟩)⟩)⟩)⟩)⟩)⟩)⟩)⟩)⟩)⟩)⟩)⟩)⟩)⟩)⟩)⟩)⟩)
theorem km_62 : ∀ t ∈ tm_62, s_tok 62 t := (List.forall_mem_cons.mpr ⟨s_lift mk_62 kb_62_0, (fun _ h => absurd h List.not_mem_nil)⟩)
theorem dX6_payOf_0 : decode cX6_payOf 0 = .ok (.lload_n 0, 1) := by decide +kernel
theorem dX6_payOf_1 : decode cX6_payOf 1 = .ok (.ldc2_w 51, 3) := by decide +kernel
theorem dX6_payOf_4 : decode cX6_payOf 4 = .ok (.ladd, 1) := by decide +kernel
theorem dX6_payOf_5 : decode cX6_payOf 5 = .ok (.lconst 1, 1) := by decide +kernel
theorem dX6_payOf_6 : decode cX6_payOf 6 = .ok (.lsub, 1) := by decide +kernel
theorem dX6_payOf_7 : decode cX6_payOf 7 = .ok (.ldc2_w 51, 3) := by decide +kernel
theorem dX6_payOf_10 : decode cX6_payOf 10 = .ok (.ldiv, 1) := by decide +kernel
theorem dX6_payOf_11 : decode cX6_payOf 11 = .ok (.lreturn, 1) := by decide +kernel
set_option maxRecDepth 20000 in
theorem kb_63_0 : ∀ q ∈ tb_63_0, s_atx 63 yX6_payOf cX6_payOf q.1 q.2 := (List.forall_mem_cons.mpr ⟨⟨s_ldLn dX6_payOf_0 rfl, s_mo_ldL _ _⟩, (List.forall_mem_cons.mpr ⟨⟨s_ldc2 w_985 dX6_payOf_1, s_mo_push _ _⟩, (List.forall_mem_cons.mpr ⟨⟨s_ladd dX6_payOf_4, s_mo_binL _ _⟩, (List.forall_mem_cons.mpr ⟨⟨s_lconst dX6_payOf_5 (by decide +kernel), s_mo_push _ _⟩, (List.forall_mem_cons.mpr ⟨⟨s_lsub dX6_payOf_6, s_mo_binL _ _⟩, (List.forall_mem_cons.mpr ⟨⟨s_ldc2 w_985 dX6_payOf_7, s_mo_push _ _⟩, (List.forall_mem_cons.mpr ⟨⟨s_ldiv dX6_payOf_10, s_mo_divL _⟩, (List.forall_mem_cons.mpr ⟨s_r3 mk_63 dX6_payOf_11, (fun _ h => absurd h List.not_mem_nil)⟩)⟩)⟩)⟩)⟩)⟩)⟩)⟩)
theorem km_63 : ∀ t ∈ tm_63, s_tok 63 t := (List.forall_mem_cons.mpr ⟨s_lift mk_63 kb_63_0, (fun _ h => absurd h List.not_mem_nil)⟩)
theorem dX6_paidByAll_0 : decode cX6_paidByAll 0 = .ok (.aload_n 0, 1) := by decide +kernel
theorem dX6_paidByAll_1 : decode cX6_paidByAll 1 = .ok (.iconst 0, 1) := by decide +kernel
theorem dX6_paidByAll_2 : decode cX6_paidByAll 2 = .ok (.invokevirtual 62, 3) := by decide +kernel
theorem dX6_paidByAll_5 : decode cX6_paidByAll 5 = .ok (.invokestatic 66, 3) := by decide +kernel
theorem dX6_paidByAll_8 : decode cX6_paidByAll 8 = .ok (.l2i, 1) := by decide +kernel
theorem dX6_paidByAll_9 : decode cX6_paidByAll 9 = .ok (.ireturn, 1) := by decide +kernel
set_option maxRecDepth 20000 in
theorem kb_64_0 : ∀ q ∈ tb_64_0, s_atx 64 yX6_paidByAll cX6_paidByAll q.1 q.2 := (List.forall_mem_cons.mpr ⟨⟨s_ldAn dX6_paidByAll_0 rfl, s_mo_ldA _ _⟩, (List.forall_mem_cons.mpr ⟨⟨s_iconst dX6_paidByAll_1 (by decide +kernel), s_mo_push _ _⟩, (List.forall_mem_cons.mpr ⟨⟨s_sV mk_64 mk_62 ok_62 (by decide +kernel) dX6_paidByAll_2 w_995 w_997 wp_16 (Or.inr ⟨3, _, _, rfl, rfl⟩), s_h0 mk_64⟩, (List.forall_mem_cons.mpr ⟨⟨s_sS mk_64 mk_63 ok_63 (by decide +kernel) dX6_paidByAll_5 w_999 w_1000, s_h0 mk_64⟩, (List.forall_mem_cons.mpr ⟨⟨s_l2i dX6_paidByAll_8, s_mo_l2i _⟩, (List.forall_mem_cons.mpr ⟨s_r1 mk_64 dX6_paidByAll_9, (fun _ h => absurd h List.not_mem_nil)⟩)⟩)⟩)⟩)⟩)⟩)
theorem km_64 : ∀ t ∈ tm_64, s_tok 64 t := (List.forall_mem_cons.mpr ⟨s_lift mk_64 kb_64_0, (fun _ h => absurd h List.not_mem_nil)⟩)
theorem dX6_paidWithout_0 : decode cX6_paidWithout 0 = .ok (.aload_n 0, 1) := by decide +kernel
theorem dX6_paidWithout_1 : decode cX6_paidWithout 1 = .ok (.iconst 1, 1) := by decide +kernel
theorem dX6_paidWithout_2 : decode cX6_paidWithout 2 = .ok (.iload_n 1, 1) := by decide +kernel
theorem dX6_paidWithout_3 : decode cX6_paidWithout 3 = .ok (.ishl, 1) := by decide +kernel
theorem dX6_paidWithout_4 : decode cX6_paidWithout 4 = .ok (.invokevirtual 62, 3) := by decide +kernel
theorem dX6_paidWithout_7 : decode cX6_paidWithout 7 = .ok (.invokestatic 66, 3) := by decide +kernel
theorem dX6_paidWithout_10 : decode cX6_paidWithout 10 = .ok (.l2i, 1) := by decide +kernel
theorem dX6_paidWithout_11 : decode cX6_paidWithout 11 = .ok (.ireturn, 1) := by decide +kernel
set_option maxRecDepth 20000 in
theorem kb_65_0 : ∀ q ∈ tb_65_0, s_atx 65 yX6_paidWithout cX6_paidWithout q.1 q.2 := (List.forall_mem_cons.mpr ⟨⟨s_ldAn dX6_paidWithout_0 rfl, s_mo_ldA _ _⟩, (List.forall_mem_cons.mpr ⟨⟨s_iconst dX6_paidWithout_1 (by decide +kernel), s_mo_push _ _⟩, (List.forall_mem_cons.mpr ⟨⟨s_ldIn dX6_paidWithout_2 rfl, s_mo_ldI _ _⟩, (List.forall_mem_cons.mpr ⟨⟨s_ishl dX6_paidWithout_3, s_mo_bin _ _⟩, (List.forall_mem_cons.mpr ⟨⟨s_sV mk_65 mk_62 ok_62 (by decide +kernel) dX6_paidWithout_4 w_995 w_997 wp_16 (Or.inr ⟨3, _, _, rfl, rfl⟩), s_h0 mk_65⟩, (List.forall_mem_cons.mpr ⟨⟨s_sS mk_65 mk_63 ok_63 (by decide +kernel) dX6_paidWithout_7 w_999 w_1000, s_h0 mk_65⟩, (List.forall_mem_cons.mpr ⟨⟨s_l2i dX6_paidWithout_10, s_mo_l2i _⟩, (List.forall_mem_cons.mpr ⟨s_r1 mk_65 dX6_paidWithout_11, (fun _ h => absurd h List.not_mem_nil)⟩)⟩)⟩)⟩)⟩)⟩)⟩)⟩)
theorem km_65 : ∀ t ∈ tm_65, s_tok 65 t := (List.forall_mem_cons.mpr ⟨s_lift mk_65 kb_65_0, (fun _ h => absurd h List.not_mem_nil)⟩)
theorem dX6_soldTo_0 : decode cX6_soldTo 0 = .ok (.aload_n 0, 1) := by decide +kernel
theorem dX6_soldTo_1 : decode cX6_soldTo 1 = .ok (.iconst 0, 1) := by decide +kernel
theorem dX6_soldTo_2 : decode cX6_soldTo 2 = .ok (.invokevirtual 62, 3) := by decide +kernel
theorem dX6_soldTo_5 : decode cX6_soldTo 5 = .ok (.lstore_n 2, 1) := by decide +kernel
theorem dX6_soldTo_6 : decode cX6_soldTo 6 = .ok (.lload_n 2, 1) := by decide +kernel
theorem dX6_soldTo_7 : decode cX6_soldTo 7 = .ok (.invokestatic 66, 3) := by decide +kernel
theorem dX6_soldTo_10 : decode cX6_soldTo 10 = .ok (.ldc2_w 51, 3) := by decide +kernel
theorem dX6_soldTo_13 : decode cX6_soldTo 13 = .ok (.lmul, 1) := by decide +kernel
theorem dX6_soldTo_14 : decode cX6_soldTo 14 = .ok (.lload_n 2, 1) := by decide +kernel
theorem dX6_soldTo_15 : decode cX6_soldTo 15 = .ok (.lsub, 1) := by decide +kernel
theorem dX6_soldTo_16 : decode cX6_soldTo 16 = .ok (.lstore 4, 2) := by decide +kernel
theorem dX6_soldTo_18 : decode cX6_soldTo 18 = .ok (.lload 4, 2) := by decide +kernel
theorem dX6_soldTo_20 : decode cX6_soldTo 20 = .ok (.getstatic 53, 3) := by decide +kernel
theorem dX6_soldTo_23 : decode cX6_soldTo 23 = .ok (.iload_n 1, 1) := by decide +kernel
theorem dX6_soldTo_24 : decode cX6_soldTo 24 = .ok (.laload, 1) := by decide +kernel
theorem dX6_soldTo_25 : decode cX6_soldTo 25 = .ok (.ldiv, 1) := by decide +kernel
theorem dX6_soldTo_26 : decode cX6_soldTo 26 = .ok (.ldc2_w 70, 3) := by decide +kernel
theorem dX6_soldTo_29 : decode cX6_soldTo 29 = .ok (.lrem, 1) := by decide +kernel
theorem dX6_soldTo_30 : decode cX6_soldTo 30 = .ok (.l2i, 1) := by decide +kernel
theorem dX6_soldTo_31 : decode cX6_soldTo 31 = .ok (.iconst 1, 1) := by decide +kernel
theorem dX6_soldTo_32 : decode cX6_soldTo 32 = .ok (.isub, 1) := by decide +kernel
theorem dX6_soldTo_33 : decode cX6_soldTo 33 = .ok (.ireturn, 1) := by decide +kernel
set_option maxRecDepth 20000 in
theorem kb_66_0 : ∀ q ∈ tb_66_0, s_atx 66 yX6_soldTo cX6_soldTo q.1 q.2 := (List.forall_mem_cons.mpr ⟨⟨s_ldAn dX6_soldTo_0 rfl, s_mo_ldA _ _⟩, (List.forall_mem_cons.mpr ⟨⟨s_iconst dX6_soldTo_1 (by decide +kernel), s_mo_push _ _⟩, (List.forall_mem_cons.mpr ⟨⟨s_sV mk_66 mk_62 ok_62 (by decide +kernel) dX6_soldTo_2 w_995 w_997 wp_16 (Or.inr ⟨3, _, _, rfl, rfl⟩), s_h0 mk_66⟩, (List.forall_mem_cons.mpr ⟨⟨s_stLn dX6_soldTo_5 rfl, s_mo_stL _ _⟩, (List.forall_mem_cons.mpr ⟨⟨s_ldLn dX6_soldTo_6 rfl, s_mo_ldL _ _⟩, (List.forall_mem_cons.mpr ⟨⟨s_sS mk_66 mk_63 ok_63 (by decide +kernel) dX6_soldTo_7 w_999 w_1000, s_h0 mk_66⟩, (List.forall_mem_cons.mpr ⟨⟨s_ldc2 w_985 dX6_soldTo_10, s_mo_push _ _⟩, (List.forall_mem_cons.mpr ⟨⟨s_lmul dX6_soldTo_13, s_mo_binL _ _⟩, (List.forall_mem_cons.mpr ⟨⟨s_ldLn dX6_soldTo_14 rfl, s_mo_ldL _ _⟩, (List.forall_mem_cons.mpr ⟨⟨s_lsub dX6_soldTo_15, s_mo_binL _ _⟩, (List.forall_mem_cons.mpr ⟨⟨s_stL dX6_soldTo_16, s_mo_stL _ _⟩, (List.forall_mem_cons.mpr ⟨⟨s_ldL dX6_soldTo_18, s_mo_ldL _ _⟩, (List.forall_mem_cons.mpr ⟨⟨s_gets (C0 := "GlassCity$Market") (n := "PLACES") (d := "[J") (List.mem_of_getElem? (i := 0) rfl) w_986 dX6_soldTo_20, s_mo_gst _ _⟩, (List.forall_mem_cons.mpr ⟨⟨s_ldIn dX6_soldTo_23 rfl, s_mo_ldI _ _⟩, (List.forall_mem_cons.mpr ⟨⟨s_laldO dX6_soldTo_24, s_mo_laldO _⟩, (List.forall_mem_cons.mpr ⟨⟨s_ldiv dX6_soldTo_25, s_mo_divL _⟩, (List.forall_mem_cons.mpr ⟨⟨s_ldc2 w_1006 dX6_soldTo_26, s_mo_push _ _⟩, (List.forall_mem_cons.mpr ⟨⟨s_lrem dX6_soldTo_29, s_mo_remL _⟩, (List.forall_mem_cons.mpr ⟨⟨s_l2i dX6_soldTo_30, s_mo_l2i _⟩, (List.forall_mem_cons.mpr ⟨⟨s_iconst dX6_soldTo_31 (by decide +kernel), s_mo_push _ _⟩, (List.forall_mem_cons.mpr ⟨⟨s_isub dX6_soldTo_32, s_mo_bin _ _⟩, (List.forall_mem_cons.mpr ⟨s_r1 mk_66 dX6_soldTo_33, (fun _ h => absurd h List.not_mem_nil)⟩)⟩)⟩)⟩)⟩)⟩)⟩)⟩)⟩)⟩)⟩)⟩)⟩)⟩)⟩)⟩)⟩)⟩)⟩)⟩)⟩)⟩)
theorem km_66 : ∀ t ∈ tm_66, s_tok 66 t := (List.forall_mem_cons.mpr ⟨s_lift mk_66 kb_66_0, (fun _ h => absurd h List.not_mem_nil)⟩)
theorem dX7_isWay_0 : decode cX7_isWay 0 = .ok (.iconst 1, 1) := by decide +kernel
theorem dX7_isWay_1 : decode cX7_isWay 1 = .ok (.aload_n 0, 1) := by decide +kernel
theorem dX7_isWay_2 : decode cX7_isWay 2 = .ok (.getfield 9, 3) := by decide +kernel
theorem dX7_isWay_5 : decode cX7_isWay 5 = .ok (.iconst 1, 1) := by decide +kernel
theorem dX7_isWay_6 : decode cX7_isWay 6 = .ok (.isub, 1) := by decide +kernel
theorem dX7_isWay_7 : decode cX7_isWay 7 = .ok (.ishl, 1) := by decide +kernel
theorem dX7_isWay_8 : decode cX7_isWay 8 = .ok (.istore_n 2, 1) := by decide +kernel
theorem dX7_isWay_9 : decode cX7_isWay 9 = .ok (.iconst 1, 1) := by decide +kernel
theorem dX7_isWay_10 : decode cX7_isWay 10 = .ok (.iload_n 1, 1) := by decide +kernel
theorem dX7_isWay_11 : decode cX7_isWay 11 = .ok (.iand, 1) := by decide +kernel
theorem dX7_isWay_12 : decode cX7_isWay 12 = .ok (.istore_n 3, 1) := by decide +kernel
theorem dX7_isWay_13 : decode cX7_isWay 13 = .ok (.iconst 0, 1) := by decide +kernel
theorem dX7_isWay_14 : decode cX7_isWay 14 = .ok (.istore 4, 2) := by decide +kernel
theorem dX7_isWay_16 : decode cX7_isWay 16 = .ok (.iload 4, 2) := by decide +kernel
theorem dX7_isWay_18 : decode cX7_isWay 18 = .ok (.bipush 30, 2) := by decide +kernel
theorem dX7_isWay_20 : decode cX7_isWay 20 = .ok (.if_icmp .ge 40, 3) := by decide +kernel
theorem dX7_isWay_23 : decode cX7_isWay 23 = .ok (.iload_n 3, 1) := by decide +kernel
theorem dX7_isWay_24 : decode cX7_isWay 24 = .ok (.aload_n 0, 1) := by decide +kernel
theorem dX7_isWay_25 : decode cX7_isWay 25 = .ok (.iload_n 3, 1) := by decide +kernel
theorem dX7_isWay_26 : decode cX7_isWay 26 = .ok (.invokevirtual 15, 3) := by decide +kernel
theorem dX7_isWay_29 : decode cX7_isWay 29 = .ok (.ior, 1) := by decide +kernel
theorem dX7_isWay_30 : decode cX7_isWay 30 = .ok (.iload_n 1, 1) := by decide +kernel
theorem dX7_isWay_31 : decode cX7_isWay 31 = .ok (.iand, 1) := by decide +kernel
theorem dX7_isWay_32 : decode cX7_isWay 32 = .ok (.istore 5, 2) := by decide +kernel
theorem dX7_isWay_34 : decode cX7_isWay 34 = .ok (.iload 5, 2) := by decide +kernel
theorem dX7_isWay_36 : decode cX7_isWay 36 = .ok (.iload_n 2, 1) := by decide +kernel
theorem dX7_isWay_37 : decode cX7_isWay 37 = .ok (.iand, 1) := by decide +kernel
theorem dX7_isWay_38 : decode cX7_isWay 38 = .ok (.ifCond .eq 5, 3) := by decide +kernel
theorem dX7_isWay_41 : decode cX7_isWay 41 = .ok (.iconst 1, 1) := by decide +kernel
theorem dX7_isWay_42 : decode cX7_isWay 42 = .ok (.ireturn, 1) := by decide +kernel
theorem dX7_isWay_43 : decode cX7_isWay 43 = .ok (.iload 5, 2) := by decide +kernel
theorem dX7_isWay_45 : decode cX7_isWay 45 = .ok (.iload_n 3, 1) := by decide +kernel
theorem dX7_isWay_46 : decode cX7_isWay 46 = .ok (.if_icmp .ne 5, 3) := by decide +kernel
theorem dX7_isWay_49 : decode cX7_isWay 49 = .ok (.iconst 0, 1) := by decide +kernel
theorem dX7_isWay_50 : decode cX7_isWay 50 = .ok (.ireturn, 1) := by decide +kernel
theorem dX7_isWay_51 : decode cX7_isWay 51 = .ok (.iload 5, 2) := by decide +kernel
theorem dX7_isWay_53 : decode cX7_isWay 53 = .ok (.istore_n 3, 1) := by decide +kernel
theorem dX7_isWay_54 : decode cX7_isWay 54 = .ok (.iinc 4 1, 3) := by decide +kernel
theorem dX7_isWay_57 : decode cX7_isWay 57 = .ok (.goto (-41), 3) := by decide +kernel
theorem dX7_isWay_60 : decode cX7_isWay 60 = .ok (.iconst 0, 1) := by decide +kernel
theorem dX7_isWay_61 : decode cX7_isWay 61 = .ok (.ireturn, 1) := by decide +kernel
set_option maxRecDepth 20000 in
theorem kb_67_0 : ∀ q ∈ tb_67_0, s_atx 67 yX7_isWay cX7_isWay q.1 q.2 := (List.forall_mem_cons.mpr ⟨⟨s_iconst dX7_isWay_0 (by decide +kernel), s_mo_push _ _⟩, (List.forall_mem_cons.mpr ⟨⟨s_ldAn dX7_isWay_1 rfl, s_mo_ldA _ _⟩, (List.forall_mem_cons.mpr ⟨⟨s_getf (ci := 0) (k := 2) rfl (by decide) inX0 w_56 dX7_isWay_2, s_mo_getf _ _ _⟩, (List.forall_mem_cons.mpr ⟨⟨s_iconst dX7_isWay_5 (by decide +kernel), s_mo_push _ _⟩, (List.forall_mem_cons.mpr ⟨⟨s_isub dX7_isWay_6, s_mo_bin _ _⟩, (List.forall_mem_cons.mpr ⟨⟨s_ishl dX7_isWay_7, s_mo_bin _ _⟩, (List.forall_mem_cons.mpr ⟨⟨s_stIn dX7_isWay_8 rfl, s_mo_stI _ _⟩, (List.forall_mem_cons.mpr ⟨⟨s_iconst dX7_isWay_9 (by decide +kernel), s_mo_push _ _⟩, (List.forall_mem_cons.mpr ⟨⟨s_ldIn dX7_isWay_10 rfl, s_mo_ldI _ _⟩, (List.forall_mem_cons.mpr ⟨⟨s_iand dX7_isWay_11, s_mo_bin _ _⟩, (List.forall_mem_cons.mpr ⟨⟨s_stIn dX7_isWay_12 rfl, s_mo_stI _ _⟩, (List.forall_mem_cons.mpr ⟨⟨s_iconst dX7_isWay_13 (by decide +kernel), s_mo_push _ _⟩, (List.forall_mem_cons.mpr ⟨⟨s_stI dX7_isWay_14, s_mo_stI _ _⟩, (List.forall_mem_cons.mpr ⟨⟨s_ldI dX7_isWay_16, s_mo_ldI _ _⟩, (List.forall_mem_cons.mpr ⟨⟨s_bipush dX7_isWay_18 (by decide +kernel), s_mo_push _ _⟩, (List.forall_mem_cons.mpr ⟨⟨s_icge dX7_isWay_20 (by decide), s_mo_icge _ _⟩, (List.forall_mem_cons.mpr ⟨⟨s_ldIn dX7_isWay_23 rfl, s_mo_ldI _ _⟩, (List.forall_mem_cons.mpr ⟨⟨s_ldAn dX7_isWay_24 rfl, s_mo_ldA _ _⟩, (List.forall_mem_cons.mpr ⟨⟨s_ldIn dX7_isWay_25 rfl, s_mo_ldI _ _⟩, (List.forall_mem_cons.mpr ⟨⟨s_sV mk_67 mk_4 ok_4 (by decide +kernel) dX7_isWay_26 w_406 w_407 w_408 (Or.inr ⟨0, _, _, rfl, rfl⟩), s_h0 mk_67⟩, (List.forall_mem_cons.mpr ⟨⟨s_ior dX7_isWay_29, s_mo_bin _ _⟩, (List.forall_mem_cons.mpr ⟨⟨s_ldIn dX7_isWay_30 rfl, s_mo_ldI _ _⟩, (List.forall_mem_cons.mpr ⟨⟨s_iand dX7_isWay_31, s_mo_bin _ _⟩, (List.forall_mem_cons.mpr ⟨⟨s_stI dX7_isWay_32, s_mo_stI _ _⟩, (List.forall_mem_cons.mpr ⟨⟨s_ldI dX7_isWay_34, s_mo_ldI _ _⟩, (List.forall_mem_cons.mpr ⟨⟨s_ldIn dX7_isWay_36 rfl, s_mo_ldI _ _⟩, (List.forall_mem_cons.mpr ⟨⟨s_iand dX7_isWay_37, s_mo_bin _ _⟩, (List.forall_mem_cons.mpr ⟨⟨s_ifeq dX7_isWay_38 (by decide), s_mo_ifeq _ _⟩, (List.forall_mem_cons.mpr ⟨⟨s_iconst dX7_isWay_41 (by decide +kernel), s_mo_push _ _⟩, (List.forall_mem_cons.mpr ⟨s_r2 mk_67 dX7_isWay_42, (List.forall_mem_cons.mpr ⟨⟨s_ldI dX7_isWay_43, s_mo_ldI _ _⟩, (List.forall_mem_cons.mpr ⟨⟨s_ldIn dX7_isWay_45 rfl, s_mo_ldI _ _⟩, (List.forall_mem_cons.mpr ⟨⟨s_icne dX7_isWay_46 (by decide), s_mo_icne _ _⟩, (List.forall_mem_cons.mpr ⟨⟨s_iconst dX7_isWay_49 (by decide +kernel), s_mo_push _ _⟩, (List.forall_mem_cons.mpr ⟨s_r2 mk_67 dX7_isWay_50, (List.forall_mem_cons.mpr ⟨⟨s_ldI dX7_isWay_51, s_mo_ldI _ _⟩, (List.forall_mem_cons.mpr ⟨⟨s_stIn dX7_isWay_53 rfl, s_mo_stI _ _⟩, (List.forall_mem_cons.mpr ⟨⟨s_inc dX7_isWay_54 (by decide +kernel), s_mo_inc _ _ _⟩, (List.forall_mem_cons.mpr ⟨⟨s_goto dX7_isWay_57 (by decide), s_mo_goto _⟩, (List.forall_mem_cons.mpr ⟨⟨s_iconst dX7_isWay_60 (by decide +kernel), s_mo_push _ _⟩, (List.forall_mem_cons.mpr ⟨s_r2 mk_67 dX7_isWay_61, (fun _ h => absurd h List.not_mem_nil)⟩)⟩)⟩)⟩)⟩)⟩)⟩)⟩)⟩)⟩)⟩)⟩)⟩)⟩)⟩)⟩)⟩)⟩)⟩)⟩)⟩)⟩)⟩)⟩)⟩)⟩)⟩)⟩)⟩)⟩)⟩)⟩)⟩)⟩)⟩)⟩)⟩)⟩)⟩)⟩)⟩)
theorem km_67 : ∀ t ∈ tm_67, s_tok 67 t := (List.forall_mem_cons.mpr ⟨s_lift mk_67 kb_67_0, (fun _ h => absurd h List.not_mem_nil)⟩)
