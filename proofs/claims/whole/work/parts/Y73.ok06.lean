/-! The tables are backed, piece by piece: written by wip/whole/gen_prog.py -/
theorem dX12_readPane_0 : decode cX12_readPane 0 = .ok (.aload_n 0, 1) := by decide +kernel
theorem dX12_readPane_1 : decode cX12_readPane 1 = .ok (.invokevirtual 133, 3) := by decide +kernel
theorem dX12_readPane_4 : decode cX12_readPane 4 = .ok (.istore 5, 2) := by decide +kernel
theorem dX12_readPane_6 : decode cX12_readPane 6 = .ok (.iload 5, 2) := by decide +kernel
theorem dX12_readPane_8 : decode cX12_readPane 8 = .ok (.ifCond .ge 7, 3) := by decide +kernel
theorem dX12_readPane_11 : decode cX12_readPane 11 = .ok (.iconst (-1), 1) := by decide +kernel
theorem dX12_readPane_12 : decode cX12_readPane 12 = .ok (.goto 9, 3) := by decide +kernel
theorem dX12_readPane_15 : decode cX12_readPane 15 = .ok (.aload_n 0, 1) := by decide +kernel
theorem dX12_readPane_16 : decode cX12_readPane 16 = .ok (.iload_n 2, 1) := by decide +kernel
theorem dX12_readPane_17 : decode cX12_readPane 17 = .ok (.iload_n 3, 1) := by decide +kernel
theorem dX12_readPane_18 : decode cX12_readPane 18 = .ok (.invokevirtual 130, 3) := by decide +kernel
theorem dX12_readPane_21 : decode cX12_readPane 21 = .ok (.istore 6, 2) := by decide +kernel
theorem dX12_readPane_23 : decode cX12_readPane 23 = .ok (.iload 6, 2) := by decide +kernel
theorem dX12_readPane_25 : decode cX12_readPane 25 = .ok (.ifCond .lt 15, 3) := by decide +kernel
theorem dX12_readPane_28 : decode cX12_readPane 28 = .ok (.aload_n 0, 1) := by decide +kernel
theorem dX12_readPane_29 : decode cX12_readPane 29 = .ok (.iload 5, 2) := by decide +kernel
theorem dX12_readPane_31 : decode cX12_readPane 31 = .ok (.iload_n 1, 1) := by decide +kernel
theorem dX12_readPane_32 : decode cX12_readPane 32 = .ok (.iload 4, 2) := by decide +kernel
theorem dX12_readPane_34 : decode cX12_readPane 34 = .ok (.iload 6, 2) := by decide +kernel
theorem dX12_readPane_36 : decode cX12_readPane 36 = .ok (.imul, 1) := by decide +kernel
theorem dX12_readPane_37 : decode cX12_readPane 37 = .ok (.invokevirtual 69, 3) := by decide +kernel
theorem dX12_readPane_40 : decode cX12_readPane 40 = .ok (.iload 6, 2) := by decide +kernel
theorem dX12_readPane_42 : decode cX12_readPane 42 = .ok (.ifCond .lt 7, 3) := by decide +kernel
theorem dX12_readPane_45 : decode cX12_readPane 45 = .ok (.iconst 1, 1) := by decide +kernel
theorem dX12_readPane_46 : decode cX12_readPane 46 = .ok (.goto 4, 3) := by decide +kernel
theorem dX12_readPane_49 : decode cX12_readPane 49 = .ok (.iconst 0, 1) := by decide +kernel
theorem dX12_readPane_50 : decode cX12_readPane 50 = .ok (.ireturn, 1) := by decide +kernel
set_option maxRecDepth 20000 in
theorem kb_176_0 : ∀ q ∈ tb_176_0, s_atx 176 yX12_readPane cX12_readPane q.1 q.2 := (List.forall_mem_cons.mpr ⟨⟨s_ldAn dX12_readPane_0 rfl, s_mo_ldA _ _⟩, (List.forall_mem_cons.mpr ⟨⟨s_sV mk_176 mk_175 ok_175 (by decide +kernel) dX12_readPane_1 w_1371 w_1373 wp_35 (Or.inr ⟨8, _, _, rfl, rfl⟩), s_h0 mk_176⟩, (List.forall_mem_cons.mpr ⟨⟨s_stI dX12_readPane_4, s_mo_stI _ _⟩, (List.forall_mem_cons.mpr ⟨⟨s_ldI dX12_readPane_6, s_mo_ldI _ _⟩, (List.forall_mem_cons.mpr ⟨⟨s_ifge dX12_readPane_8 (by decide), s_mo_ifge _ _⟩, (List.forall_mem_cons.mpr ⟨⟨s_iconst dX12_readPane_11 (by decide +kernel), s_mo_push _ _⟩, (List.forall_mem_cons.mpr ⟨⟨s_goto dX12_readPane_12 (by decide), s_mo_goto _⟩, (List.forall_mem_cons.mpr ⟨⟨s_ldAn dX12_readPane_15 rfl, s_mo_ldA _ _⟩, (List.forall_mem_cons.mpr ⟨⟨s_ldIn dX12_readPane_16 rfl, s_mo_ldI _ _⟩, (List.forall_mem_cons.mpr ⟨⟨s_ldIn dX12_readPane_17 rfl, s_mo_ldI _ _⟩, (List.forall_mem_cons.mpr ⟨⟨s_sV mk_176 mk_173 ok_173 (by decide +kernel) dX12_readPane_18 w_1362 w_1364 wp_33 (Or.inr ⟨8, _, _, rfl, rfl⟩), s_h0 mk_176⟩, (List.forall_mem_cons.mpr ⟨⟨s_stI dX12_readPane_21, s_mo_stI _ _⟩, (List.forall_mem_cons.mpr ⟨⟨s_ldI dX12_readPane_23, s_mo_ldI _ _⟩, (List.forall_mem_cons.mpr ⟨⟨s_iflt dX12_readPane_25 (by decide), s_mo_iflt _ _⟩, (List.forall_mem_cons.mpr ⟨⟨s_ldAn dX12_readPane_28 rfl, s_mo_ldA _ _⟩, (List.forall_mem_cons.mpr ⟨⟨s_ldI dX12_readPane_29, s_mo_ldI _ _⟩, (List.forall_mem_cons.mpr ⟨⟨s_ldIn dX12_readPane_31 rfl, s_mo_ldI _ _⟩, (List.forall_mem_cons.mpr ⟨⟨s_ldI dX12_readPane_32, s_mo_ldI _ _⟩, (List.forall_mem_cons.mpr ⟨⟨s_ldI dX12_readPane_34, s_mo_ldI _ _⟩, (List.forall_mem_cons.mpr ⟨⟨s_imul dX12_readPane_36, s_mo_bin _ _⟩, (List.forall_mem_cons.mpr ⟨⟨s_sV mk_176 mk_159 ok_159 (by decide +kernel) dX12_readPane_37 w_1217 w_1219 wp_24 (Or.inr ⟨8, _, _, rfl, rfl⟩), s_h0 mk_176⟩, (List.forall_mem_cons.mpr ⟨⟨s_ldI dX12_readPane_40, s_mo_ldI _ _⟩, (List.forall_mem_cons.mpr ⟨⟨s_iflt dX12_readPane_42 (by decide), s_mo_iflt _ _⟩, (List.forall_mem_cons.mpr ⟨⟨s_iconst dX12_readPane_45 (by decide +kernel), s_mo_push _ _⟩, (List.forall_mem_cons.mpr ⟨⟨s_goto dX12_readPane_46 (by decide), s_mo_goto _⟩, (List.forall_mem_cons.mpr ⟨⟨s_iconst dX12_readPane_49 (by decide +kernel), s_mo_push _ _⟩, (List.forall_mem_cons.mpr ⟨s_r2 mk_176 dX12_readPane_50, (fun _ h => absurd h List.not_mem_nil)⟩)⟩)⟩)⟩)⟩)⟩)⟩)⟩)⟩)⟩)⟩)⟩)⟩)⟩)⟩)⟩)⟩)⟩)⟩)⟩)⟩)⟩)⟩)⟩)⟩)⟩)⟩)
theorem km_176 : ∀ t ∈ tm_176, s_tok 176 t := (List.forall_mem_cons.mpr ⟨s_lift mk_176 kb_176_0, (fun _ h => absurd h List.not_mem_nil)⟩)
theorem dX12_readSize_0 : decode cX12_readSize 0 = .ok (.aload_n 0, 1) := by decide +kernel
theorem dX12_readSize_1 : decode cX12_readSize 1 = .ok (.iconst 1, 1) := by decide +kernel
theorem dX12_readSize_2 : decode cX12_readSize 2 = .ok (.bipush 6, 2) := by decide +kernel
theorem dX12_readSize_4 : decode cX12_readSize 4 = .ok (.invokevirtual 130, 3) := by decide +kernel
theorem dX12_readSize_7 : decode cX12_readSize 7 = .ok (.istore_n 1, 1) := by decide +kernel
theorem dX12_readSize_8 : decode cX12_readSize 8 = .ok (.iload_n 1, 1) := by decide +kernel
theorem dX12_readSize_9 : decode cX12_readSize 9 = .ok (.ifCond .ge 7, 3) := by decide +kernel
theorem dX12_readSize_12 : decode cX12_readSize 12 = .ok (.iconst (-1), 1) := by decide +kernel
theorem dX12_readSize_13 : decode cX12_readSize 13 = .ok (.goto 9, 3) := by decide +kernel
theorem dX12_readSize_16 : decode cX12_readSize 16 = .ok (.aload_n 0, 1) := by decide +kernel
theorem dX12_readSize_17 : decode cX12_readSize 17 = .ok (.iconst 1, 1) := by decide +kernel
theorem dX12_readSize_18 : decode cX12_readSize 18 = .ok (.iconst 5, 1) := by decide +kernel
theorem dX12_readSize_19 : decode cX12_readSize 19 = .ok (.invokevirtual 130, 3) := by decide +kernel
theorem dX12_readSize_22 : decode cX12_readSize 22 = .ok (.istore_n 2, 1) := by decide +kernel
theorem dX12_readSize_23 : decode cX12_readSize 23 = .ok (.iload_n 2, 1) := by decide +kernel
theorem dX12_readSize_24 : decode cX12_readSize 24 = .ok (.ifCond .ge 5, 3) := by decide +kernel
theorem dX12_readSize_27 : decode cX12_readSize 27 = .ok (.iconst 0, 1) := by decide +kernel
theorem dX12_readSize_28 : decode cX12_readSize 28 = .ok (.ireturn, 1) := by decide +kernel
theorem dX12_readSize_29 : decode cX12_readSize 29 = .ok (.aload_n 0, 1) := by decide +kernel
theorem dX12_readSize_30 : decode cX12_readSize 30 = .ok (.getfield 13, 3) := by decide +kernel
theorem dX12_readSize_33 : decode cX12_readSize 33 = .ok (.iconst 0, 1) := by decide +kernel
theorem dX12_readSize_34 : decode cX12_readSize 34 = .ok (.iload_n 1, 1) := by decide +kernel
theorem dX12_readSize_35 : decode cX12_readSize 35 = .ok (.iastore, 1) := by decide +kernel
theorem dX12_readSize_36 : decode cX12_readSize 36 = .ok (.aload_n 0, 1) := by decide +kernel
theorem dX12_readSize_37 : decode cX12_readSize 37 = .ok (.getfield 13, 3) := by decide +kernel
theorem dX12_readSize_40 : decode cX12_readSize 40 = .ok (.iconst 1, 1) := by decide +kernel
theorem dX12_readSize_41 : decode cX12_readSize 41 = .ok (.iload_n 2, 1) := by decide +kernel
theorem dX12_readSize_42 : decode cX12_readSize 42 = .ok (.iastore, 1) := by decide +kernel
theorem dX12_readSize_43 : decode cX12_readSize 43 = .ok (.aload_n 0, 1) := by decide +kernel
theorem dX12_readSize_44 : decode cX12_readSize 44 = .ok (.invokevirtual 66, 3) := by decide +kernel
theorem dX12_readSize_47 : decode cX12_readSize 47 = .ok (.iconst 1, 1) := by decide +kernel
theorem dX12_readSize_48 : decode cX12_readSize 48 = .ok (.ireturn, 1) := by decide +kernel
set_option maxRecDepth 20000 in
theorem kb_177_0 : ∀ q ∈ tb_177_0, s_atx 177 yX12_readSize cX12_readSize q.1 q.2 := (List.forall_mem_cons.mpr ⟨⟨s_ldAn dX12_readSize_0 rfl, s_mo_ldA _ _⟩, (List.forall_mem_cons.mpr ⟨⟨s_iconst dX12_readSize_1 (by decide +kernel), s_mo_push _ _⟩, (List.forall_mem_cons.mpr ⟨⟨s_bipush dX12_readSize_2 (by decide +kernel), s_mo_push _ _⟩, (List.forall_mem_cons.mpr ⟨⟨s_sV mk_177 mk_173 ok_173 (by decide +kernel) dX12_readSize_4 w_1362 w_1364 wp_33 (Or.inr ⟨8, _, _, rfl, rfl⟩), s_h0 mk_177⟩, (List.forall_mem_cons.mpr ⟨⟨s_stIn dX12_readSize_7 rfl, s_mo_stI _ _⟩, (List.forall_mem_cons.mpr ⟨⟨s_ldIn dX12_readSize_8 rfl, s_mo_ldI _ _⟩, (List.forall_mem_cons.mpr ⟨⟨s_ifge dX12_readSize_9 (by decide), s_mo_ifge _ _⟩, (List.forall_mem_cons.mpr ⟨⟨s_iconst dX12_readSize_12 (by decide +kernel), s_mo_push _ _⟩, (List.forall_mem_cons.mpr ⟨⟨s_goto dX12_readSize_13 (by decide), s_mo_goto _⟩, (List.forall_mem_cons.mpr ⟨⟨s_ldAn dX12_readSize_16 rfl, s_mo_ldA _ _⟩, (List.forall_mem_cons.mpr ⟨⟨s_iconst dX12_readSize_17 (by decide +kernel), s_mo_push _ _⟩, (List.forall_mem_cons.mpr ⟨⟨s_iconst dX12_readSize_18 (by decide +kernel), s_mo_push _ _⟩, (List.forall_mem_cons.mpr ⟨⟨s_sV mk_177 mk_173 ok_173 (by decide +kernel) dX12_readSize_19 w_1362 w_1364 wp_33 (Or.inr ⟨8, _, _, rfl, rfl⟩), s_h0 mk_177⟩, (List.forall_mem_cons.mpr ⟨⟨s_stIn dX12_readSize_22 rfl, s_mo_stI _ _⟩, (List.forall_mem_cons.mpr ⟨⟨s_ldIn dX12_readSize_23 rfl, s_mo_ldI _ _⟩, (List.forall_mem_cons.mpr ⟨⟨s_ifge dX12_readSize_24 (by decide), s_mo_ifge _ _⟩, (List.forall_mem_cons.mpr ⟨⟨s_iconst dX12_readSize_27 (by decide +kernel), s_mo_push _ _⟩, (List.forall_mem_cons.mpr ⟨s_r2 mk_177 dX12_readSize_28, (List.forall_mem_cons.mpr ⟨⟨s_ldAn dX12_readSize_29 rfl, s_mo_ldA _ _⟩, (List.forall_mem_cons.mpr ⟨⟨s_getf (ci := 8) (k := 1) rfl (by decide) inX12 w_1222 dX12_readSize_30, s_mo_getf _ _ _⟩, (List.forall_mem_cons.mpr ⟨⟨s_iconst dX12_readSize_33 (by decide +kernel), s_mo_push _ _⟩, (List.forall_mem_cons.mpr ⟨⟨s_ldIn dX12_readSize_34 rfl, s_mo_ldI _ _⟩, (List.forall_mem_cons.mpr ⟨⟨s_iast dX12_readSize_35, s_mo_iast _⟩, (List.forall_mem_cons.mpr ⟨⟨s_ldAn dX12_readSize_36 rfl, s_mo_ldA _ _⟩, (List.forall_mem_cons.mpr ⟨⟨s_getf (ci := 8) (k := 1) rfl (by decide) inX12 w_1222 dX12_readSize_37, s_mo_getf _ _ _⟩, (List.forall_mem_cons.mpr ⟨⟨s_iconst dX12_readSize_40 (by decide +kernel), s_mo_push _ _⟩, (List.forall_mem_cons.mpr ⟨⟨s_ldIn dX12_readSize_41 rfl, s_mo_ldI _ _⟩, (List.forall_mem_cons.mpr ⟨⟨s_iast dX12_readSize_42, s_mo_iast _⟩, (List.forall_mem_cons.mpr ⟨⟨s_ldAn dX12_readSize_43 rfl, s_mo_ldA _ _⟩, (List.forall_mem_cons.mpr ⟨⟨s_sV mk_177 mk_152 ok_152 (by decide +kernel) dX12_readSize_44 w_1213 w_1215 wp_23 (Or.inr ⟨8, _, _, rfl, rfl⟩), s_h0 mk_177⟩, (List.forall_mem_cons.mpr ⟨⟨s_iconst dX12_readSize_47 (by decide +kernel), s_mo_push _ _⟩, (List.forall_mem_cons.mpr ⟨s_r2 mk_177 dX12_readSize_48, (fun _ h => absurd h List.not_mem_nil)⟩)⟩)⟩)⟩)⟩)⟩)⟩)⟩)⟩)⟩)⟩)⟩)⟩)⟩)⟩)⟩)⟩)⟩)⟩)⟩)⟩)⟩)⟩)⟩)⟩)⟩)⟩)⟩)⟩)⟩)⟩)⟩)
theorem km_177 : ∀ t ∈ tm_177, s_tok 177 t := (List.forall_mem_cons.mpr ⟨s_lift mk_177 kb_177_0, (fun _ h => absurd h List.not_mem_nil)⟩)
theorem dX12_readCart_0 : decode cX12_readCart 0 = .ok (.aload_n 0, 1) := by decide +kernel
theorem dX12_readCart_1 : decode cX12_readCart 1 = .ok (.getfield 13, 3) := by decide +kernel
theorem dX12_readCart_4 : decode cX12_readCart 4 = .ok (.iconst 2, 1) := by decide +kernel
theorem dX12_readCart_5 : decode cX12_readCart 5 = .ok (.iaload, 1) := by decide +kernel
theorem dX12_readCart_6 : decode cX12_readCart 6 = .ok (.bipush 12, 2) := by decide +kernel
theorem dX12_readCart_8 : decode cX12_readCart 8 = .ok (.if_icmp .ne 5, 3) := by decide +kernel
theorem dX12_readCart_11 : decode cX12_readCart 11 = .ok (.iconst 0, 1) := by decide +kernel
theorem dX12_readCart_12 : decode cX12_readCart 12 = .ok (.ireturn, 1) := by decide +kernel
theorem dX12_readCart_13 : decode cX12_readCart 13 = .ok (.sipush 187, 3) := by decide +kernel
theorem dX12_readCart_16 : decode cX12_readCart 16 = .ok (.iconst 5, 1) := by decide +kernel
theorem dX12_readCart_17 : decode cX12_readCart 17 = .ok (.aload_n 0, 1) := by decide +kernel
theorem dX12_readCart_18 : decode cX12_readCart 18 = .ok (.getfield 13, 3) := by decide +kernel
theorem dX12_readCart_21 : decode cX12_readCart 21 = .ok (.iconst 2, 1) := by decide +kernel
theorem dX12_readCart_22 : decode cX12_readCart 22 = .ok (.iaload, 1) := by decide +kernel
theorem dX12_readCart_23 : decode cX12_readCart 23 = .ok (.imul, 1) := by decide +kernel
theorem dX12_readCart_24 : decode cX12_readCart 24 = .ok (.iadd, 1) := by decide +kernel
theorem dX12_readCart_25 : decode cX12_readCart 25 = .ok (.istore_n 1, 1) := by decide +kernel
theorem dX12_readCart_26 : decode cX12_readCart 26 = .ok (.aload_n 0, 1) := by decide +kernel
theorem dX12_readCart_27 : decode cX12_readCart 27 = .ok (.iconst 1, 1) := by decide +kernel
theorem dX12_readCart_28 : decode cX12_readCart 28 = .ok (.sipush 200, 3) := by decide +kernel
theorem dX12_readCart_31 : decode cX12_readCart 31 = .ok (.invokevirtual 130, 3) := by decide +kernel
theorem dX12_readCart_34 : decode cX12_readCart 34 = .ok (.istore_n 2, 1) := by decide +kernel
theorem dX12_readCart_35 : decode cX12_readCart 35 = .ok (.iload_n 2, 1) := by decide +kernel
theorem dX12_readCart_36 : decode cX12_readCart 36 = .ok (.ifCond .ge 7, 3) := by decide +kernel
theorem dX12_readCart_39 : decode cX12_readCart 39 = .ok (.iconst (-1), 1) := by decide +kernel
theorem dX12_readCart_40 : decode cX12_readCart 40 = .ok (.goto 7, 3) := by decide +kernel
theorem dX12_readCart_43 : decode cX12_readCart 43 = .ok (.aload_n 0, 1) := by decide +kernel
theorem dX12_readCart_44 : decode cX12_readCart 44 = .ok (.invokevirtual 133, 3) := by decide +kernel
theorem dX12_readCart_47 : decode cX12_readCart 47 = .ok (.istore_n 3, 1) := by decide +kernel
theorem dX12_readCart_48 : decode cX12_readCart 48 = .ok (.iload_n 3, 1) := by decide +kernel
theorem dX12_readCart_49 : decode cX12_readCart 49 = .ok (.ifCond .ge 7, 3) := by decide +kernel
theorem dX12_readCart_52 : decode cX12_readCart 52 = .ok (.iconst (-1), 1) := by decide +kernel
theorem dX12_readCart_53 : decode cX12_readCart 53 = .ok (.goto 10, 3) := by decide +kernel
theorem dX12_readCart_56 : decode cX12_readCart 56 = .ok (.aload_n 0, 1) := by decide +kernel
theorem dX12_readCart_57 : decode cX12_readCart 57 = .ok (.iconst 0, 1) := by decide +kernel
theorem dX12_readCart_58 : decode cX12_readCart 58 = .ok (.bipush 23, 2) := by decide +kernel
theorem dX12_readCart_60 : decode cX12_readCart 60 = .ok (.invokevirtual 130, 3) := by decide +kernel
theorem dX12_readCart_63 : decode cX12_readCart 63 = .ok (.istore 4, 2) := by decide +kernel
theorem dX12_readCart_65 : decode cX12_readCart 65 = .ok (.iload 4, 2) := by decide +kernel
theorem dX12_readCart_67 : decode cX12_readCart 67 = .ok (.ifCond .ge 5, 3) := by decide +kernel
theorem dX12_readCart_70 : decode cX12_readCart 70 = .ok (.iconst 0, 1) := by decide +kernel
theorem dX12_readCart_71 : decode cX12_readCart 71 = .ok (.ireturn, 1) := by decide +kernel
theorem dX12_readCart_72 : decode cX12_readCart 72 = .ok (.aload_n 0, 1) := by decide +kernel
theorem dX12_readCart_73 : decode cX12_readCart 73 = .ok (.invokevirtual 123, 3) := by decide +kernel
theorem dX12_readCart_76 : decode cX12_readCart 76 = .ok (.aload_n 0, 1) := by decide +kernel
theorem dX12_readCart_77 : decode cX12_readCart 77 = .ok (.ldc 136, 2) := by decide +kernel
theorem dX12_readCart_79 : decode cX12_readCart 79 = .ok (.invokevirtual 126, 3) := by decide +kernel
theorem dX12_readCart_82 : decode cX12_readCart 82 = .ok (.ifCond .eq 13, 3) := by decide +kernel
theorem dX12_readCart_85 : decode cX12_readCart 85 = .ok (.aload_n 0, 1) := by decide +kernel
theorem dX12_readCart_86 : decode cX12_readCart 86 = .ok (.iconst 0, 1) := by decide +kernel
theorem dX12_readCart_87 : decode cX12_readCart 87 = .ok (.bipush 23, 2) := by decide +kernel
theorem dX12_readCart_89 : decode cX12_readCart 89 = .ok (.invokevirtual 130, 3) := by decide +kernel
theorem dX12_readCart_92 : decode cX12_readCart 92 = .ok (.goto 4, 3) := by decide +kernel
theorem dX12_readCart_95 : decode cX12_readCart 95 = .ok (.iconst (-1), 1) := by decide +kernel
theorem dX12_readCart_96 : decode cX12_readCart 96 = .ok (.istore 5, 2) := by decide +kernel
theorem dX12_readCart_98 : decode cX12_readCart 98 = .ok (.iload 5, 2) := by decide +kernel
theorem dX12_readCart_100 : decode cX12_readCart 100 = .ok (.ifCond .ge 5, 3) := by decide +kernel
theorem dX12_readCart_103 : decode cX12_readCart 103 = .ok (.iconst 0, 1) := by decide +kernel
theorem dX12_readCart_104 : decode cX12_readCart 104 = .ok (.ireturn, 1) := by decide +kernel
theorem dX12_readCart_105 : decode cX12_readCart 105 = .ok (.aload_n 0, 1) := by decide +kernel
theorem dX12_readCart_106 : decode cX12_readCart 106 = .ok (.getfield 13, 3) := by decide +kernel
theorem dX12_readCart_109 : decode cX12_readCart 109 = .ok (.iload_n 1, 1) := by decide +kernel
theorem dX12_readCart_110 : decode cX12_readCart 110 = .ok (.iload_n 2, 1) := by decide +kernel
theorem dX12_readCart_111 : decode cX12_readCart 111 = .ok (.iastore, 1) := by decide +kernel
theorem dX12_readCart_112 : decode cX12_readCart 112 = .ok (.aload_n 0, 1) := by decide +kernel
theorem dX12_readCart_113 : decode cX12_readCart 113 = .ok (.getfield 13, 3) := by decide +kernel
theorem dX12_readCart_116 : decode cX12_readCart 116 = .ok (.iload_n 1, 1) := by decide +kernel
theorem dX12_readCart_117 : decode cX12_readCart 117 = .ok (.iconst 1, 1) := by decide +kernel
theorem dX12_readCart_118 : decode cX12_readCart 118 = .ok (.iadd, 1) := by decide +kernel
theorem dX12_readCart_119 : decode cX12_readCart 119 = .ok (.iload_n 3, 1) := by decide +kernel
theorem dX12_readCart_120 : decode cX12_readCart 120 = .ok (.iastore, 1) := by decide +kernel
theorem dX12_readCart_121 : decode cX12_readCart 121 = .ok (.aload_n 0, 1) := by decide +kernel
theorem dX12_readCart_122 : decode cX12_readCart 122 = .ok (.getfield 13, 3) := by decide +kernel
theorem dX12_readCart_125 : decode cX12_readCart 125 = .ok (.iload_n 1, 1) := by decide +kernel
theorem dX12_readCart_126 : decode cX12_readCart 126 = .ok (.iconst 2, 1) := by decide +kernel
theorem dX12_readCart_127 : decode cX12_readCart 127 = .ok (.iadd, 1) := by decide +kernel
theorem dX12_readCart_128 : decode cX12_readCart 128 = .ok (.iload 4, 2) := by decide +kernel
theorem dX12_readCart_130 : decode cX12_readCart 130 = .ok (.iastore, 1) := by decide +kernel
theorem dX12_readCart_131 : decode cX12_readCart 131 = .ok (.aload_n 0, 1) := by decide +kernel
theorem dX12_readCart_132 : decode cX12_readCart 132 = .ok (.getfield 13, 3) := by decide +kernel
theorem dX12_readCart_135 : decode cX12_readCart 135 = .ok (.iload_n 1, 1) := by decide +kernel
theorem dX12_readCart_136 : decode cX12_readCart 136 = .ok (.iconst 3, 1) := by decide +kernel
theorem dX12_readCart_137 : decode cX12_readCart 137 = .ok (.iadd, 1) := by decide +kernel
theorem dX12_readCart_138 : decode cX12_readCart 138 = .ok (.iload 5, 2) := by decide +kernel
theorem dX12_readCart_140 : decode cX12_readCart 140 = .ok (.iastore, 1) := by decide +kernel
theorem dX12_readCart_141 : decode cX12_readCart 141 = .ok (.aload_n 0, 1) := by decide +kernel
theorem dX12_readCart_142 : decode cX12_readCart 142 = .ok (.getfield 13, 3) := by decide +kernel
theorem dX12_readCart_145 : decode cX12_readCart 145 = .ok (.iload_n 1, 1) := by decide +kernel
theorem dX12_readCart_146 : decode cX12_readCart 146 = .ok (.iconst 4, 1) := by decide +kernel
theorem dX12_readCart_147 : decode cX12_readCart 147 = .ok (.iadd, 1) := by decide +kernel
theorem dX12_readCart_148 : decode cX12_readCart 148 = .ok (.aload_n 0, 1) := by decide +kernel
theorem dX12_readCart_149 : decode cX12_readCart 149 = .ok (.ldc 138, 2) := by decide +kernel
theorem dX12_readCart_151 : decode cX12_readCart 151 = .ok (.invokevirtual 140, 3) := by decide +kernel
theorem dX12_readCart_154 : decode cX12_readCart 154 = .ok (.ifCond .eq 7, 3) := by decide +kernel
theorem dX12_readCart_157 : decode cX12_readCart 157 = .ok (.iconst 1, 1) := by decide +kernel
theorem dX12_readCart_158 : decode cX12_readCart 158 = .ok (.goto 4, 3) := by decide +kernel
theorem dX12_readCart_161 : decode cX12_readCart 161 = .ok (.iconst 0, 1) := by decide +kernel
theorem dX12_readCart_162 : decode cX12_readCart 162 = .ok (.iastore, 1) := by decide +kernel
theorem dX12_readCart_163 : decode cX12_readCart 163 = .ok (.aload_n 0, 1) := by decide +kernel
theorem dX12_readCart_164 : decode cX12_readCart 164 = .ok (.getfield 13, 3) := by decide +kernel
theorem dX12_readCart_167 : decode cX12_readCart 167 = .ok (.iconst 2, 1) := by decide +kernel
theorem dX12_readCart_168 : decode cX12_readCart 168 = .ok (.dup2, 1) := by decide +kernel
theorem dX12_readCart_169 : decode cX12_readCart 169 = .ok (.iaload, 1) := by decide +kernel
theorem dX12_readCart_170 : decode cX12_readCart 170 = .ok (.iconst 1, 1) := by decide +kernel
theorem dX12_readCart_171 : decode cX12_readCart 171 = .ok (.iadd, 1) := by decide +kernel
theorem dX12_readCart_172 : decode cX12_readCart 172 = .ok (.iastore, 1) := by decide +kernel
theorem dX12_readCart_173 : decode cX12_readCart 173 = .ok (.iconst 1, 1) := by decide +kernel
theorem dX12_readCart_174 : decode cX12_readCart 174 = .ok (.ireturn, 1) := by decide +kernel
set_option maxRecDepth 20000 in
theorem kb_178_0 : ∀ q ∈ tb_178_0, s_atx 178 yX12_readCart cX12_readCart q.1 q.2 := (List.forall_mem_cons.mpr ⟨⟨s_ldAn dX12_readCart_0 rfl, s_mo_ldA _ _⟩, (List.forall_mem_cons.mpr ⟨⟨s_getf (ci := 8) (k := 1) rfl (by decide) inX12 w_1222 dX12_readCart_1, s_mo_getf _ _ _⟩, (List.forall_mem_cons.mpr ⟨⟨s_iconst dX12_readCart_4 (by decide +kernel), s_mo_push _ _⟩, (List.forall_mem_cons.mpr ⟨⟨s_iald dX12_readCart_5, s_mo_iald _⟩, (List.forall_mem_cons.mpr ⟨⟨s_bipush dX12_readCart_6 (by decide +kernel), s_mo_push _ _⟩, (List.forall_mem_cons.mpr ⟨⟨s_icne dX12_readCart_8 (by decide), s_mo_icne _ _⟩, (List.forall_mem_cons.mpr ⟨⟨s_iconst dX12_readCart_11 (by decide +kernel), s_mo_push _ _⟩, (List.forall_mem_cons.mpr ⟨s_r2 mk_178 dX12_readCart_12, (List.forall_mem_cons.mpr ⟨⟨s_sipush dX12_readCart_13 (by decide +kernel), s_mo_push _ _⟩, (List.forall_mem_cons.mpr ⟨⟨s_iconst dX12_readCart_16 (by decide +kernel), s_mo_push _ _⟩, (List.forall_mem_cons.mpr ⟨⟨s_ldAn dX12_readCart_17 rfl, s_mo_ldA _ _⟩, (List.forall_mem_cons.mpr ⟨⟨s_getf (ci := 8) (k := 1) rfl (by decide) inX12 w_1222 dX12_readCart_18, s_mo_getf _ _ _⟩, (List.forall_mem_cons.mpr ⟨⟨s_iconst dX12_readCart_21 (by decide +kernel), s_mo_push _ _⟩, (List.forall_mem_cons.mpr ⟨⟨s_iald dX12_readCart_22, s_mo_iald _⟩, (List.forall_mem_cons.mpr ⟨⟨s_imul dX12_readCart_23, s_mo_bin _ _⟩, (List.forall_mem_cons.mpr ⟨⟨s_iadd dX12_readCart_24, s_mo_bin _ _⟩, (List.forall_mem_cons.mpr ⟨⟨s_stIn dX12_readCart_25 rfl, s_mo_stI _ _⟩, (List.forall_mem_cons.mpr ⟨⟨s_ldAn dX12_readCart_26 rfl, s_mo_ldA _ _⟩, (List.forall_mem_cons.mpr ⟨⟨s_iconst dX12_readCart_27 (by decide +kernel), s_mo_push _ _⟩, (List.forall_mem_cons.mpr ⟨⟨s_sipush dX12_readCart_28 (by decide +kernel), s_mo_push _ _⟩, (List.forall_mem_cons.mpr ⟨⟨s_sV mk_178 mk_173 ok_173 (by decide +kernel) dX12_readCart_31 w_1362 w_1364 wp_33 (Or.inr ⟨8, _, _, rfl, rfl⟩), s_h0 mk_178⟩, (List.forall_mem_cons.mpr ⟨⟨s_stIn dX12_readCart_34 rfl, s_mo_stI _ _⟩, (List.forall_mem_cons.mpr ⟨⟨s_ldIn dX12_readCart_35 rfl, s_mo_ldI _ _⟩, (List.forall_mem_cons.mpr ⟨⟨s_ifge dX12_readCart_36 (by decide), s_mo_ifge _ _⟩, (List.forall_mem_cons.mpr ⟨⟨s_iconst dX12_readCart_39 (by decide +kernel), s_mo_push _ _⟩, (List.forall_mem_cons.mpr ⟨⟨s_goto dX12_readCart_40 (by decide), s_mo_goto _⟩, (List.forall_mem_cons.mpr ⟨⟨s_ldAn dX12_readCart_43 rfl, s_mo_ldA _ _⟩, (List.forall_mem_cons.mpr ⟨⟨s_sV mk_178 mk_175 ok_175 (by decide +kernel) dX12_readCart_44 w_1371 w_1373 wp_35 (Or.inr ⟨8, _, _, rfl, rfl⟩), s_h0 mk_178⟩, (List.forall_mem_cons.mpr ⟨⟨s_stIn dX12_readCart_47 rfl, s_mo_stI _ _⟩, (List.forall_mem_cons.mpr ⟨⟨s_ldIn dX12_readCart_48 rfl, s_mo_ldI _ _⟩, (List.forall_mem_cons.mpr ⟨⟨s_ifge dX12_readCart_49 (by decide), s_mo_ifge _ _⟩, (List.forall_mem_cons.mpr ⟨⟨s_iconst dX12_readCart_52 (by decide +kernel), s_mo_push _ _⟩, (List.forall_mem_cons.mpr ⟨⟨s_goto dX12_readCart_53 (by decide), s_mo_goto _⟩, (List.forall_mem_cons.mpr ⟨⟨s_ldAn dX12_readCart_56 rfl, s_mo_ldA _ _⟩, (List.forall_mem_cons.mpr ⟨⟨s_iconst dX12_readCart_57 (by decide +kernel), s_mo_push _ _⟩, (List.forall_mem_cons.mpr ⟨⟨s_bipush dX12_readCart_58 (by decide +kernel), s_mo_push _ _⟩, (List.forall_mem_cons.mpr ⟨⟨s_sV mk_178 mk_173 ok_173 (by decide +kernel) dX12_readCart_60 w_1362 w_1364 wp_33 (Or.inr ⟨8, _, _, rfl, rfl⟩), s_h0 mk_178⟩, (List.forall_mem_cons.mpr ⟨⟨s_stI dX12_readCart_63, s_mo_stI _ _⟩, (fun _ h => absurd h List.not_mem_nil)⟩)⟩)⟩)⟩)⟩)⟩)⟩)⟩)⟩)⟩)⟩)⟩)⟩)⟩)⟩)⟩)⟩)⟩)⟩)⟩)⟩)⟩)⟩)⟩)⟩)⟩)⟩)⟩)⟩)⟩)⟩)⟩)⟩)⟩)⟩)⟩)⟩)⟩)
set_option maxRecDepth 20000 in
theorem kb_178_1 : ∀ q ∈ tb_178_1, s_atx 178 yX12_readCart cX12_readCart q.1 q.2 := (List.forall_mem_cons.mpr ⟨⟨s_ldI dX12_readCart_65, s_mo_ldI _ _⟩, (List.forall_mem_cons.mpr ⟨⟨s_ifge dX12_readCart_67 (by decide), s_mo_ifge _ _⟩, (List.forall_mem_cons.mpr ⟨⟨s_iconst dX12_readCart_70 (by decide +kernel), s_mo_push _ _⟩, (List.forall_mem_cons.mpr ⟨s_r2 mk_178 dX12_readCart_71, (List.forall_mem_cons.mpr ⟨⟨s_ldAn dX12_readCart_72 rfl, s_mo_ldA _ _⟩, (List.forall_mem_cons.mpr ⟨⟨s_sV mk_178 mk_169 ok_169 (by decide +kernel) dX12_readCart_73 w_1343 w_1345 wp_29 (Or.inr ⟨8, _, _, rfl, rfl⟩), s_h0 mk_178⟩, (List.forall_mem_cons.mpr ⟨⟨s_ldAn dX12_readCart_76 rfl, s_mo_ldA _ _⟩, (List.forall_mem_cons.mpr ⟨⟨s_ldcS (tx := "to") (List.mem_of_getElem? (i := 32) rfl) dX12_readCart_77, s_mo_push _ _⟩, (List.forall_mem_cons.mpr ⟨⟨s_sV mk_178 mk_170 ok_170 (by decide +kernel) dX12_readCart_79 w_1352 w_1354 wp_31 (Or.inr ⟨8, _, _, rfl, rfl⟩), s_h0 mk_178⟩, (List.forall_mem_cons.mpr ⟨⟨s_ifeq dX12_readCart_82 (by decide), s_mo_ifeq _ _⟩, (List.forall_mem_cons.mpr ⟨⟨s_ldAn dX12_readCart_85 rfl, s_mo_ldA _ _⟩, (List.forall_mem_cons.mpr ⟨⟨s_iconst dX12_readCart_86 (by decide +kernel), s_mo_push _ _⟩, (List.forall_mem_cons.mpr ⟨⟨s_bipush dX12_readCart_87 (by decide +kernel), s_mo_push _ _⟩, (List.forall_mem_cons.mpr ⟨⟨s_sV mk_178 mk_173 ok_173 (by decide +kernel) dX12_readCart_89 w_1362 w_1364 wp_33 (Or.inr ⟨8, _, _, rfl, rfl⟩), s_h0 mk_178⟩, (List.forall_mem_cons.mpr ⟨⟨s_goto dX12_readCart_92 (by decide), s_mo_goto _⟩, (List.forall_mem_cons.mpr ⟨⟨s_iconst dX12_readCart_95 (by decide +kernel), s_mo_push _ _⟩, (List.forall_mem_cons.mpr ⟨⟨s_stI dX12_readCart_96, s_mo_stI _ _⟩, (List.forall_mem_cons.mpr ⟨⟨s_ldI dX12_readCart_98, s_mo_ldI _ _⟩, (List.forall_mem_cons.mpr ⟨⟨s_ifge dX12_readCart_100 (by decide), s_mo_ifge _ _⟩, (List.forall_mem_cons.mpr ⟨⟨s_iconst dX12_readCart_103 (by decide +kernel), s_mo_push _ _⟩, (List.forall_mem_cons.mpr ⟨s_r2 mk_178 dX12_readCart_104, (List.forall_mem_cons.mpr ⟨⟨s_ldAn dX12_readCart_105 rfl, s_mo_ldA _ _⟩, (List.forall_mem_cons.mpr ⟨⟨s_getf (ci := 8) (k := 1) rfl (by decide) inX12 w_1222 dX12_readCart_106, s_mo_getf _ _ _⟩, (List.forall_mem_cons.mpr ⟨⟨s_ldIn dX12_readCart_109 rfl, s_mo_ldI _ _⟩, (List.forall_mem_cons.mpr ⟨⟨s_ldIn dX12_readCart_110 rfl, s_mo_ldI _ _⟩, (List.forall_mem_cons.mpr ⟨⟨s_iast dX12_readCart_111, s_mo_iast _⟩, (List.forall_mem_cons.mpr ⟨⟨s_ldAn dX12_readCart_112 rfl, s_mo_ldA _ _⟩, (List.forall_mem_cons.mpr ⟨⟨s_getf (ci := 8) (k := 1) rfl (by decide) inX12 w_1222 dX12_readCart_113, s_mo_getf _ _ _⟩, (List.forall_mem_cons.mpr ⟨⟨s_ldIn dX12_readCart_116 rfl, s_mo_ldI _ _⟩, (List.forall_mem_cons.mpr ⟨⟨s_iconst dX12_readCart_117 (by decide +kernel), s_mo_push _ _⟩, (List.forall_mem_cons.mpr ⟨⟨s_iadd dX12_readCart_118, s_mo_bin _ _⟩, (List.forall_mem_cons.mpr ⟨⟨s_ldIn dX12_readCart_119 rfl, s_mo_ldI _ _⟩, (List.forall_mem_cons.mpr ⟨⟨s_iast dX12_readCart_120, s_mo_iast _⟩, (List.forall_mem_cons.mpr ⟨⟨s_ldAn dX12_readCart_121 rfl, s_mo_ldA _ _⟩, (List.forall_mem_cons.mpr ⟨⟨s_getf (ci := 8) (k := 1) rfl (by decide) inX12 w_1222 dX12_readCart_122, s_mo_getf _ _ _⟩, (List.forall_mem_cons.mpr ⟨⟨s_ldIn dX12_readCart_125 rfl, s_mo_ldI _ _⟩, (List.forall_mem_cons.mpr ⟨⟨s_iconst dX12_readCart_126 (by decide +kernel), s_mo_push _ _⟩, (List.forall_mem_cons.mpr ⟨⟨s_iadd dX12_readCart_127, s_mo_bin _ _⟩, (fun _ h => absurd h List.not_mem_nil)⟩)⟩)⟩)⟩)⟩)⟩)⟩)⟩)⟩)⟩)⟩)⟩)⟩)⟩)⟩)⟩)⟩)⟩)⟩)⟩)⟩)⟩)⟩)⟩)⟩)⟩)⟩)⟩)⟩)⟩)⟩)⟩)⟩)⟩)⟩)⟩)⟩)⟩)
set_option maxRecDepth 20000 in
theorem kb_178_2 : ∀ q ∈ tb_178_2, s_atx 178 yX12_readCart cX12_readCart q.1 q.2 := (List.forall_mem_cons.mpr ⟨⟨s_ldI dX12_readCart_128, s_mo_ldI _ _⟩, (List.forall_mem_cons.mpr ⟨⟨s_iast dX12_readCart_130, s_mo_iast _⟩, (List.forall_mem_cons.mpr ⟨⟨s_ldAn dX12_readCart_131 rfl, s_mo_ldA _ _⟩, (List.forall_mem_cons.mpr ⟨⟨s_getf (ci := 8) (k := 1) rfl (by decide) inX12 w_1222 dX12_readCart_132, s_mo_getf _ _ _⟩, (List.forall_mem_cons.mpr ⟨⟨s_ldIn dX12_readCart_135 rfl, s_mo_ldI _ _⟩, (List.forall_mem_cons.mpr ⟨⟨s_iconst dX12_readCart_136 (by decide +kernel), s_mo_push _ _⟩, (List.forall_mem_cons.mpr ⟨⟨s_iadd dX12_readCart_137, s_mo_bin _ _⟩, (List.forall_mem_cons.mpr ⟨⟨s_ldI dX12_readCart_138, s_mo_ldI _ _⟩, (List.forall_mem_cons.mpr ⟨⟨s_iast dX12_readCart_140, s_mo_iast _⟩, (List.forall_mem_cons.mpr ⟨⟨s_ldAn dX12_readCart_141 rfl, s_mo_ldA _ _⟩, (List.forall_mem_cons.mpr ⟨⟨s_getf (ci := 8) (k := 1) rfl (by decide) inX12 w_1222 dX12_readCart_142, s_mo_getf _ _ _⟩, (List.forall_mem_cons.mpr ⟨⟨s_ldIn dX12_readCart_145 rfl, s_mo_ldI _ _⟩, (List.forall_mem_cons.mpr ⟨⟨s_iconst dX12_readCart_146 (by decide +kernel), s_mo_push _ _⟩, (List.forall_mem_cons.mpr ⟨⟨s_iadd dX12_readCart_147, s_mo_bin _ _⟩, (List.forall_mem_cons.mpr ⟨⟨s_ldAn dX12_readCart_148 rfl, s_mo_ldA _ _⟩, (List.forall_mem_cons.mpr ⟨⟨s_ldcS (tx := "felt") (List.mem_of_getElem? (i := 33) rfl) dX12_readCart_149, s_mo_push _ _⟩, (List.forall_mem_cons.mpr ⟨⟨s_sV mk_178 mk_171 ok_171 (by decide +kernel) dX12_readCart_151 w_1391 w_1393 wp_38 (Or.inr ⟨8, _, _, rfl, rfl⟩), s_h0 mk_178⟩, (List.forall_mem_cons.mpr ⟨⟨s_ifeq dX12_readCart_154 (by decide), s_mo_ifeq _ _⟩, (List.forall_mem_cons.mpr ⟨⟨s_iconst dX12_readCart_157 (by decide +kernel), s_mo_push _ _⟩, (List.forall_mem_cons.mpr ⟨⟨s_goto dX12_readCart_158 (by decide), s_mo_goto _⟩, (List.forall_mem_cons.mpr ⟨⟨s_iconst dX12_readCart_161 (by decide +kernel), s_mo_push _ _⟩, (List.forall_mem_cons.mpr ⟨⟨s_iast dX12_readCart_162, s_mo_iast _⟩, (List.forall_mem_cons.mpr ⟨⟨s_ldAn dX12_readCart_163 rfl, s_mo_ldA _ _⟩, (List.forall_mem_cons.mpr ⟨⟨s_getf (ci := 8) (k := 1) rfl (by decide) inX12 w_1222 dX12_readCart_164, s_mo_getf _ _ _⟩, (List.forall_mem_cons.mpr ⟨⟨s_iconst dX12_readCart_167 (by decide +kernel), s_mo_push _ _⟩, (List.forall_mem_cons.mpr ⟨⟨s_dup2 dX12_readCart_168, s_mo_dup2 _⟩, (List.forall_mem_cons.mpr ⟨⟨s_iald dX12_readCart_169, s_mo_iald _⟩, (List.forall_mem_cons.mpr ⟨⟨s_iconst dX12_readCart_170 (by decide +kernel), s_mo_push _ _⟩, (List.forall_mem_cons.mpr ⟨⟨s_iadd dX12_readCart_171, s_mo_bin _ _⟩, (List.forall_mem_cons.mpr ⟨⟨s_iast dX12_readCart_172, s_mo_iast _⟩, (List.forall_mem_cons.mpr ⟨⟨s_iconst dX12_readCart_173 (by decide +kernel), s_mo_push _ _⟩, (List.forall_mem_cons.mpr ⟨s_r2 mk_178 dX12_readCart_174, (fun _ h => absurd h List.not_mem_nil)⟩)⟩)⟩)⟩)⟩)⟩)⟩)⟩)⟩)⟩)⟩)⟩)⟩)⟩)⟩)⟩)⟩)⟩)⟩)⟩)⟩)⟩)⟩)⟩)⟩)⟩)⟩)⟩)⟩)⟩)⟩)⟩)
theorem km_178 : ∀ t ∈ tm_178, s_tok 178 t := (List.forall_mem_cons.mpr ⟨s_lift mk_178 kb_178_0, (List.forall_mem_cons.mpr ⟨s_lift mk_178 kb_178_1, (List.forall_mem_cons.mpr ⟨s_lift mk_178 kb_178_2, (fun _ h => absurd h List.not_mem_nil)⟩)⟩)⟩)
theorem dX12_readCityLine_0 : decode cX12_readCityLine 0 = .ok (.aload_n 0, 1) := by decide +kernel
theorem dX12_readCityLine_1 : decode cX12_readCityLine 1 = .ok (.ldc 143, 2) := by decide +kernel
theorem dX12_readCityLine_3 : decode cX12_readCityLine 3 = .ok (.invokevirtual 126, 3) := by decide +kernel
theorem dX12_readCityLine_6 : decode cX12_readCityLine 6 = .ok (.ifCond .eq 8, 3) := by decide +kernel
theorem dX12_readCityLine_9 : decode cX12_readCityLine 9 = .ok (.aload_n 0, 1) := by decide +kernel
theorem dX12_readCityLine_10 : decode cX12_readCityLine 10 = .ok (.invokevirtual 145, 3) := by decide +kernel
theorem dX12_readCityLine_13 : decode cX12_readCityLine 13 = .ok (.ireturn, 1) := by decide +kernel
theorem dX12_readCityLine_14 : decode cX12_readCityLine 14 = .ok (.aload_n 0, 1) := by decide +kernel
theorem dX12_readCityLine_15 : decode cX12_readCityLine 15 = .ok (.ldc 149, 2) := by decide +kernel
theorem dX12_readCityLine_17 : decode cX12_readCityLine 17 = .ok (.invokevirtual 126, 3) := by decide +kernel
theorem dX12_readCityLine_20 : decode cX12_readCityLine 20 = .ok (.ifCond .eq 13, 3) := by decide +kernel
theorem dX12_readCityLine_23 : decode cX12_readCityLine 23 = .ok (.aload_n 0, 1) := by decide +kernel
theorem dX12_readCityLine_24 : decode cX12_readCityLine 24 = .ok (.iconst 0, 1) := by decide +kernel
theorem dX12_readCityLine_25 : decode cX12_readCityLine 25 = .ok (.iconst 1, 1) := by decide +kernel
theorem dX12_readCityLine_26 : decode cX12_readCityLine 26 = .ok (.bipush 9, 2) := by decide +kernel
theorem dX12_readCityLine_28 : decode cX12_readCityLine 28 = .ok (.iconst 1, 1) := by decide +kernel
theorem dX12_readCityLine_29 : decode cX12_readCityLine 29 = .ok (.invokevirtual 151, 3) := by decide +kernel
theorem dX12_readCityLine_32 : decode cX12_readCityLine 32 = .ok (.ireturn, 1) := by decide +kernel
theorem dX12_readCityLine_33 : decode cX12_readCityLine 33 = .ok (.aload_n 0, 1) := by decide +kernel
theorem dX12_readCityLine_34 : decode cX12_readCityLine 34 = .ok (.ldc 155, 2) := by decide +kernel
theorem dX12_readCityLine_36 : decode cX12_readCityLine 36 = .ok (.invokevirtual 126, 3) := by decide +kernel
theorem dX12_readCityLine_39 : decode cX12_readCityLine 39 = .ok (.ifCond .eq 13, 3) := by decide +kernel
theorem dX12_readCityLine_42 : decode cX12_readCityLine 42 = .ok (.aload_n 0, 1) := by decide +kernel
theorem dX12_readCityLine_43 : decode cX12_readCityLine 43 = .ok (.iconst 1, 1) := by decide +kernel
theorem dX12_readCityLine_44 : decode cX12_readCityLine 44 = .ok (.iconst 0, 1) := by decide +kernel
theorem dX12_readCityLine_45 : decode cX12_readCityLine 45 = .ok (.bipush 60, 2) := by decide +kernel
theorem dX12_readCityLine_47 : decode cX12_readCityLine 47 = .ok (.iconst 1, 1) := by decide +kernel
theorem dX12_readCityLine_48 : decode cX12_readCityLine 48 = .ok (.invokevirtual 151, 3) := by decide +kernel
theorem dX12_readCityLine_51 : decode cX12_readCityLine 51 = .ok (.ireturn, 1) := by decide +kernel
theorem dX12_readCityLine_52 : decode cX12_readCityLine 52 = .ok (.aload_n 0, 1) := by decide +kernel
theorem dX12_readCityLine_53 : decode cX12_readCityLine 53 = .ok (.ldc 157, 2) := by decide +kernel
theorem dX12_readCityLine_55 : decode cX12_readCityLine 55 = .ok (.invokevirtual 126, 3) := by decide +kernel
theorem dX12_readCityLine_58 : decode cX12_readCityLine 58 = .ok (.ifCond .eq 13, 3) := by decide +kernel
theorem dX12_readCityLine_61 : decode cX12_readCityLine 61 = .ok (.aload_n 0, 1) := by decide +kernel
theorem dX12_readCityLine_62 : decode cX12_readCityLine 62 = .ok (.iconst 1, 1) := by decide +kernel
theorem dX12_readCityLine_63 : decode cX12_readCityLine 63 = .ok (.iconst 0, 1) := by decide +kernel
theorem dX12_readCityLine_64 : decode cX12_readCityLine 64 = .ok (.bipush 40, 2) := by decide +kernel
theorem dX12_readCityLine_66 : decode cX12_readCityLine 66 = .ok (.iconst (-1), 1) := by decide +kernel
theorem dX12_readCityLine_67 : decode cX12_readCityLine 67 = .ok (.invokevirtual 151, 3) := by decide +kernel
theorem dX12_readCityLine_70 : decode cX12_readCityLine 70 = .ok (.ireturn, 1) := by decide +kernel
theorem dX12_readCityLine_71 : decode cX12_readCityLine 71 = .ok (.aload_n 0, 1) := by decide +kernel
theorem dX12_readCityLine_72 : decode cX12_readCityLine 72 = .ok (.ldc 159, 2) := by decide +kernel
theorem dX12_readCityLine_74 : decode cX12_readCityLine 74 = .ok (.invokevirtual 126, 3) := by decide +kernel
theorem dX12_readCityLine_77 : decode cX12_readCityLine 77 = .ok (.ifCond .eq 13, 3) := by decide +kernel
theorem dX12_readCityLine_80 : decode cX12_readCityLine 80 = .ok (.aload_n 0, 1) := by decide +kernel
theorem dX12_readCityLine_81 : decode cX12_readCityLine 81 = .ok (.iconst 2, 1) := by decide +kernel
theorem dX12_readCityLine_82 : decode cX12_readCityLine 82 = .ok (.iconst 0, 1) := by decide +kernel
theorem dX12_readCityLine_83 : decode cX12_readCityLine 83 = .ok (.bipush 100, 2) := by decide +kernel
theorem dX12_readCityLine_85 : decode cX12_readCityLine 85 = .ok (.iconst 1, 1) := by decide +kernel
theorem dX12_readCityLine_86 : decode cX12_readCityLine 86 = .ok (.invokevirtual 151, 3) := by decide +kernel
theorem dX12_readCityLine_89 : decode cX12_readCityLine 89 = .ok (.ireturn, 1) := by decide +kernel
theorem dX12_readCityLine_90 : decode cX12_readCityLine 90 = .ok (.aload_n 0, 1) := by decide +kernel
theorem dX12_readCityLine_91 : decode cX12_readCityLine 91 = .ok (.ldc 161, 2) := by decide +kernel
theorem dX12_readCityLine_93 : decode cX12_readCityLine 93 = .ok (.invokevirtual 126, 3) := by decide +kernel
theorem dX12_readCityLine_96 : decode cX12_readCityLine 96 = .ok (.ifCond .eq 13, 3) := by decide +kernel
theorem dX12_readCityLine_99 : decode cX12_readCityLine 99 = .ok (.aload_n 0, 1) := by decide +kernel
theorem dX12_readCityLine_100 : decode cX12_readCityLine 100 = .ok (.iconst 4, 1) := by decide +kernel
theorem dX12_readCityLine_101 : decode cX12_readCityLine 101 = .ok (.iconst 0, 1) := by decide +kernel
theorem dX12_readCityLine_102 : decode cX12_readCityLine 102 = .ok (.bipush 7, 2) := by decide +kernel
theorem dX12_readCityLine_104 : decode cX12_readCityLine 104 = .ok (.iconst 1, 1) := by decide +kernel
theorem dX12_readCityLine_105 : decode cX12_readCityLine 105 = .ok (.invokevirtual 151, 3) := by decide +kernel
theorem dX12_readCityLine_108 : decode cX12_readCityLine 108 = .ok (.ireturn, 1) := by decide +kernel
theorem dX12_readCityLine_109 : decode cX12_readCityLine 109 = .ok (.aload_n 0, 1) := by decide +kernel
theorem dX12_readCityLine_110 : decode cX12_readCityLine 110 = .ok (.ldc 163, 2) := by decide +kernel
theorem dX12_readCityLine_112 : decode cX12_readCityLine 112 = .ok (.invokevirtual 126, 3) := by decide +kernel
theorem dX12_readCityLine_115 : decode cX12_readCityLine 115 = .ok (.ifCond .eq 13, 3) := by decide +kernel
theorem dX12_readCityLine_118 : decode cX12_readCityLine 118 = .ok (.aload_n 0, 1) := by decide +kernel
theorem dX12_readCityLine_119 : decode cX12_readCityLine 119 = .ok (.iconst 5, 1) := by decide +kernel
theorem dX12_readCityLine_120 : decode cX12_readCityLine 120 = .ok (.iconst 0, 1) := by decide +kernel
theorem dX12_readCityLine_121 : decode cX12_readCityLine 121 = .ok (.bipush 99, 2) := by decide +kernel
theorem dX12_readCityLine_123 : decode cX12_readCityLine 123 = .ok (.iconst 1, 1) := by decide +kernel
theorem dX12_readCityLine_124 : decode cX12_readCityLine 124 = .ok (.invokevirtual 151, 3) := by decide +kernel
theorem dX12_readCityLine_127 : decode cX12_readCityLine 127 = .ok (.ireturn, 1) := by decide +kernel
theorem dX12_readCityLine_128 : decode cX12_readCityLine 128 = .ok (.aload_n 0, 1) := by decide +kernel
theorem dX12_readCityLine_129 : decode cX12_readCityLine 129 = .ok (.ldc 164, 2) := by decide +kernel
theorem dX12_readCityLine_131 : decode cX12_readCityLine 131 = .ok (.invokevirtual 126, 3) := by decide +kernel
theorem dX12_readCityLine_134 : decode cX12_readCityLine 134 = .ok (.ifCond .eq 14, 3) := by decide +kernel
theorem dX12_readCityLine_137 : decode cX12_readCityLine 137 = .ok (.aload_n 0, 1) := by decide +kernel
theorem dX12_readCityLine_138 : decode cX12_readCityLine 138 = .ok (.invokevirtual 166, 3) := by decide +kernel
theorem dX12_readCityLine_141 : decode cX12_readCityLine 141 = .ok (.ifCond .eq 7, 3) := by decide +kernel
theorem dX12_readCityLine_144 : decode cX12_readCityLine 144 = .ok (.iconst 1, 1) := by decide +kernel
theorem dX12_readCityLine_145 : decode cX12_readCityLine 145 = .ok (.goto 4, 3) := by decide +kernel
theorem dX12_readCityLine_148 : decode cX12_readCityLine 148 = .ok (.iconst 0, 1) := by decide +kernel
theorem dX12_readCityLine_149 : decode cX12_readCityLine 149 = .ok (.ireturn, 1) := by decide +kernel
set_option maxRecDepth 20000 in
theorem kb_179_0 : ∀ q ∈ tb_179_0, s_atx 179 yX12_readCityLine cX12_readCityLine q.1 q.2 := (List.forall_mem_cons.mpr ⟨⟨s_ldAn dX12_readCityLine_0 rfl, s_mo_ldA _ _⟩, (List.forall_mem_cons.mpr ⟨⟨s_ldcS (tx := "size") (List.mem_of_getElem? (i := 24) rfl) dX12_readCityLine_1, s_mo_push _ _⟩, (List.forall_mem_cons.mpr ⟨⟨s_sV mk_179 mk_170 ok_170 (by decide +kernel) dX12_readCityLine_3 w_1352 w_1354 wp_31 (Or.inr ⟨8, _, _, rfl, rfl⟩), s_h0 mk_179⟩, (List.forall_mem_cons.mpr ⟨⟨s_ifeq dX12_readCityLine_6 (by decide), s_mo_ifeq _ _⟩, (List.forall_mem_cons.mpr ⟨⟨s_ldAn dX12_readCityLine_9 rfl, s_mo_ldA _ _⟩, (List.forall_mem_cons.mpr ⟨⟨s_sV mk_179 mk_177 ok_177 (by decide +kernel) dX12_readCityLine_10 w_1358 w_1360 wp_32 (Or.inr ⟨8, _, _, rfl, rfl⟩), s_h0 mk_179⟩, (List.forall_mem_cons.mpr ⟨s_r2 mk_179 dX12_readCityLine_13, (List.forall_mem_cons.mpr ⟨⟨s_ldAn dX12_readCityLine_14 rfl, s_mo_ldA _ _⟩, (List.forall_mem_cons.mpr ⟨⟨s_ldcS (tx := "thick") (List.mem_of_getElem? (i := 25) rfl) dX12_readCityLine_15, s_mo_push _ _⟩, (List.forall_mem_cons.mpr ⟨⟨s_sV mk_179 mk_170 ok_170 (by decide +kernel) dX12_readCityLine_17 w_1352 w_1354 wp_31 (Or.inr ⟨8, _, _, rfl, rfl⟩), s_h0 mk_179⟩, (List.forall_mem_cons.mpr ⟨⟨s_ifeq dX12_readCityLine_20 (by decide), s_mo_ifeq _ _⟩, (List.forall_mem_cons.mpr ⟨⟨s_ldAn dX12_readCityLine_23 rfl, s_mo_ldA _ _⟩, (List.forall_mem_cons.mpr ⟨⟨s_iconst dX12_readCityLine_24 (by decide +kernel), s_mo_push _ _⟩, (List.forall_mem_cons.mpr ⟨⟨s_iconst dX12_readCityLine_25 (by decide +kernel), s_mo_push _ _⟩, (List.forall_mem_cons.mpr ⟨⟨s_bipush dX12_readCityLine_26 (by decide +kernel), s_mo_push _ _⟩, (List.forall_mem_cons.mpr ⟨⟨s_iconst dX12_readCityLine_28 (by decide +kernel), s_mo_push _ _⟩, (List.forall_mem_cons.mpr ⟨⟨s_sV mk_179 mk_176 ok_176 (by decide +kernel) dX12_readCityLine_29 w_1367 w_1369 wp_34 (Or.inr ⟨8, _, _, rfl, rfl⟩), s_h0 mk_179⟩, (List.forall_mem_cons.mpr ⟨s_r2 mk_179 dX12_readCityLine_32, (List.forall_mem_cons.mpr ⟨⟨s_ldAn dX12_readCityLine_33 rfl, s_mo_ldA _ _⟩, (List.forall_mem_cons.mpr ⟨⟨s_ldcS (tx := "heat") (List.mem_of_getElem? (i := 26) rfl) dX12_readCityLine_34, s_mo_push _ _⟩, (List.forall_mem_cons.mpr ⟨⟨s_sV mk_179 mk_170 ok_170 (by decide +kernel) dX12_readCityLine_36 w_1352 w_1354 wp_31 (Or.inr ⟨8, _, _, rfl, rfl⟩), s_h0 mk_179⟩, (List.forall_mem_cons.mpr ⟨⟨s_ifeq dX12_readCityLine_39 (by decide), s_mo_ifeq _ _⟩, (List.forall_mem_cons.mpr ⟨⟨s_ldAn dX12_readCityLine_42 rfl, s_mo_ldA _ _⟩, (List.forall_mem_cons.mpr ⟨⟨s_iconst dX12_readCityLine_43 (by decide +kernel), s_mo_push _ _⟩, (List.forall_mem_cons.mpr ⟨⟨s_iconst dX12_readCityLine_44 (by decide +kernel), s_mo_push _ _⟩, (List.forall_mem_cons.mpr ⟨⟨s_bipush dX12_readCityLine_45 (by decide +kernel), s_mo_push _ _⟩, (List.forall_mem_cons.mpr ⟨⟨s_iconst dX12_readCityLine_47 (by decide +kernel), s_mo_push _ _⟩, (List.forall_mem_cons.mpr ⟨⟨s_sV mk_179 mk_176 ok_176 (by decide +kernel) dX12_readCityLine_48 w_1367 w_1369 wp_34 (Or.inr ⟨8, _, _, rfl, rfl⟩), s_h0 mk_179⟩, (List.forall_mem_cons.mpr ⟨s_r2 mk_179 dX12_readCityLine_51, (List.forall_mem_cons.mpr ⟨⟨s_ldAn dX12_readCityLine_52 rfl, s_mo_ldA _ _⟩, (List.forall_mem_cons.mpr ⟨⟨s_ldcS (tx := "cold") (List.mem_of_getElem? (i := 27) rfl) dX12_readCityLine_53, s_mo_push _ _⟩, (List.forall_mem_cons.mpr ⟨⟨s_sV mk_179 mk_170 ok_170 (by decide +kernel) dX12_readCityLine_55 w_1352 w_1354 wp_31 (Or.inr ⟨8, _, _, rfl, rfl⟩), s_h0 mk_179⟩, (List.forall_mem_cons.mpr ⟨⟨s_ifeq dX12_readCityLine_58 (by decide), s_mo_ifeq _ _⟩, (List.forall_mem_cons.mpr ⟨⟨s_ldAn dX12_readCityLine_61 rfl, s_mo_ldA _ _⟩, (List.forall_mem_cons.mpr ⟨⟨s_iconst dX12_readCityLine_62 (by decide +kernel), s_mo_push _ _⟩, (List.forall_mem_cons.mpr ⟨⟨s_iconst dX12_readCityLine_63 (by decide +kernel), s_mo_push _ _⟩, (fun _ h => absurd h List.not_mem_nil)⟩)⟩)⟩)⟩)⟩)⟩)⟩)⟩)⟩)⟩)⟩)⟩)⟩)⟩)⟩)⟩)⟩)⟩)⟩)⟩)⟩)⟩)⟩)⟩)⟩)⟩)⟩)⟩)⟩)⟩)⟩)⟩)⟩)⟩)⟩)⟩)
set_option maxRecDepth 20000 in
theorem kb_179_1 : ∀ q ∈ tb_179_1, s_atx 179 yX12_readCityLine cX12_readCityLine q.1 q.2 := (List.forall_mem_cons.mpr ⟨⟨s_bipush dX12_readCityLine_64 (by decide +kernel), s_mo_push _ _⟩, (List.forall_mem_cons.mpr ⟨⟨s_iconst dX12_readCityLine_66 (by decide +kernel), s_mo_push _ _⟩, (List.forall_mem_cons.mpr ⟨⟨s_sV mk_179 mk_176 ok_176 (by decide +kernel) dX12_readCityLine_67 w_1367 w_1369 wp_34 (Or.inr ⟨8, _, _, rfl, rfl⟩), s_h0 mk_179⟩, (List.forall_mem_cons.mpr ⟨s_r2 mk_179 dX12_readCityLine_70, (List.forall_mem_cons.mpr ⟨⟨s_ldAn dX12_readCityLine_71 rfl, s_mo_ldA _ _⟩, (List.forall_mem_cons.mpr ⟨⟨s_ldcS (tx := "sand") (List.mem_of_getElem? (i := 28) rfl) dX12_readCityLine_72, s_mo_push _ _⟩, (List.forall_mem_cons.mpr ⟨⟨s_sV mk_179 mk_170 ok_170 (by decide +kernel) dX12_readCityLine_74 w_1352 w_1354 wp_31 (Or.inr ⟨8, _, _, rfl, rfl⟩), s_h0 mk_179⟩, (List.forall_mem_cons.mpr ⟨⟨s_ifeq dX12_readCityLine_77 (by decide), s_mo_ifeq _ _⟩, (List.forall_mem_cons.mpr ⟨⟨s_ldAn dX12_readCityLine_80 rfl, s_mo_ldA _ _⟩, (List.forall_mem_cons.mpr ⟨⟨s_iconst dX12_readCityLine_81 (by decide +kernel), s_mo_push _ _⟩, (List.forall_mem_cons.mpr ⟨⟨s_iconst dX12_readCityLine_82 (by decide +kernel), s_mo_push _ _⟩, (List.forall_mem_cons.mpr ⟨⟨s_bipush dX12_readCityLine_83 (by decide +kernel), s_mo_push _ _⟩, (List.forall_mem_cons.mpr ⟨⟨s_iconst dX12_readCityLine_85 (by decide +kernel), s_mo_push _ _⟩, (List.forall_mem_cons.mpr ⟨⟨s_sV mk_179 mk_176 ok_176 (by decide +kernel) dX12_readCityLine_86 w_1367 w_1369 wp_34 (Or.inr ⟨8, _, _, rfl, rfl⟩), s_h0 mk_179⟩, (List.forall_mem_cons.mpr ⟨s_r2 mk_179 dX12_readCityLine_89, (List.forall_mem_cons.mpr ⟨⟨s_ldAn dX12_readCityLine_90 rfl, s_mo_ldA _ _⟩, (List.forall_mem_cons.mpr ⟨⟨s_ldcS (tx := "owner") (List.mem_of_getElem? (i := 29) rfl) dX12_readCityLine_91, s_mo_push _ _⟩, (List.forall_mem_cons.mpr ⟨⟨s_sV mk_179 mk_170 ok_170 (by decide +kernel) dX12_readCityLine_93 w_1352 w_1354 wp_31 (Or.inr ⟨8, _, _, rfl, rfl⟩), s_h0 mk_179⟩, (List.forall_mem_cons.mpr ⟨⟨s_ifeq dX12_readCityLine_96 (by decide), s_mo_ifeq _ _⟩, (List.forall_mem_cons.mpr ⟨⟨s_ldAn dX12_readCityLine_99 rfl, s_mo_ldA _ _⟩, (List.forall_mem_cons.mpr ⟨⟨s_iconst dX12_readCityLine_100 (by decide +kernel), s_mo_push _ _⟩, (List.forall_mem_cons.mpr ⟨⟨s_iconst dX12_readCityLine_101 (by decide +kernel), s_mo_push _ _⟩, (List.forall_mem_cons.mpr ⟨⟨s_bipush dX12_readCityLine_102 (by decide +kernel), s_mo_push _ _⟩, (List.forall_mem_cons.mpr ⟨⟨s_iconst dX12_readCityLine_104 (by decide +kernel), s_mo_push _ _⟩, (List.forall_mem_cons.mpr ⟨⟨s_sV mk_179 mk_176 ok_176 (by decide +kernel) dX12_readCityLine_105 w_1367 w_1369 wp_34 (Or.inr ⟨8, _, _, rfl, rfl⟩), s_h0 mk_179⟩, (List.forall_mem_cons.mpr ⟨s_r2 mk_179 dX12_readCityLine_108, (List.forall_mem_cons.mpr ⟨⟨s_ldAn dX12_readCityLine_109 rfl, s_mo_ldA _ _⟩, (List.forall_mem_cons.mpr ⟨⟨s_ldcS (tx := "lamp") (List.mem_of_getElem? (i := 30) rfl) dX12_readCityLine_110, s_mo_push _ _⟩, (List.forall_mem_cons.mpr ⟨⟨s_sV mk_179 mk_170 ok_170 (by decide +kernel) dX12_readCityLine_112 w_1352 w_1354 wp_31 (Or.inr ⟨8, _, _, rfl, rfl⟩), s_h0 mk_179⟩, (List.forall_mem_cons.mpr ⟨⟨s_ifeq dX12_readCityLine_115 (by decide), s_mo_ifeq _ _⟩, (List.forall_mem_cons.mpr ⟨⟨s_ldAn dX12_readCityLine_118 rfl, s_mo_ldA _ _⟩, (List.forall_mem_cons.mpr ⟨⟨s_iconst dX12_readCityLine_119 (by decide +kernel), s_mo_push _ _⟩, (List.forall_mem_cons.mpr ⟨⟨s_iconst dX12_readCityLine_120 (by decide +kernel), s_mo_push _ _⟩, (List.forall_mem_cons.mpr ⟨⟨s_bipush dX12_readCityLine_121 (by decide +kernel), s_mo_push _ _⟩, (List.forall_mem_cons.mpr ⟨⟨s_iconst dX12_readCityLine_123 (by decide +kernel), s_mo_push _ _⟩, (List.forall_mem_cons.mpr ⟨⟨s_sV mk_179 mk_176 ok_176 (by decide +kernel) dX12_readCityLine_124 w_1367 w_1369 wp_34 (Or.inr ⟨8, _, _, rfl, rfl⟩), s_h0 mk_179⟩, (List.forall_mem_cons.mpr ⟨s_r2 mk_179 dX12_readCityLine_127, (fun _ h => absurd h List.not_mem_nil)⟩)⟩)⟩)⟩)⟩)⟩)⟩)⟩)⟩)⟩)⟩)⟩)⟩)⟩)⟩)⟩)⟩)⟩)⟩)⟩)⟩)⟩)⟩)⟩)⟩)⟩)⟩)⟩)⟩)⟩)⟩)⟩)⟩)⟩)⟩)⟩)⟩)
set_option maxRecDepth 20000 in
theorem kb_179_2 : ∀ q ∈ tb_179_2, s_atx 179 yX12_readCityLine cX12_readCityLine q.1 q.2 := (List.forall_mem_cons.mpr ⟨⟨s_ldAn dX12_readCityLine_128 rfl, s_mo_ldA _ _⟩, (List.forall_mem_cons.mpr ⟨⟨s_ldcS (tx := "cart") (List.mem_of_getElem? (i := 31) rfl) dX12_readCityLine_129, s_mo_push _ _⟩, (List.forall_mem_cons.mpr ⟨⟨s_sV mk_179 mk_170 ok_170 (by decide +kernel) dX12_readCityLine_131 w_1352 w_1354 wp_31 (Or.inr ⟨8, _, _, rfl, rfl⟩), s_h0 mk_179⟩, (List.forall_mem_cons.mpr ⟨⟨s_ifeq dX12_readCityLine_134 (by decide), s_mo_ifeq _ _⟩, (List.forall_mem_cons.mpr ⟨⟨s_ldAn dX12_readCityLine_137 rfl, s_mo_ldA _ _⟩, (List.forall_mem_cons.mpr ⟨⟨s_sV mk_179 mk_178 ok_178 (by decide +kernel) dX12_readCityLine_138 w_1385 w_1387 wp_37 (Or.inr ⟨8, _, _, rfl, rfl⟩), s_h0 mk_179⟩, (List.forall_mem_cons.mpr ⟨⟨s_ifeq dX12_readCityLine_141 (by decide), s_mo_ifeq _ _⟩, (List.forall_mem_cons.mpr ⟨⟨s_iconst dX12_readCityLine_144 (by decide +kernel), s_mo_push _ _⟩, (List.forall_mem_cons.mpr ⟨⟨s_goto dX12_readCityLine_145 (by decide), s_mo_goto _⟩, (List.forall_mem_cons.mpr ⟨⟨s_iconst dX12_readCityLine_148 (by decide +kernel), s_mo_push _ _⟩, (List.forall_mem_cons.mpr ⟨s_r2 mk_179 dX12_readCityLine_149, (fun _ h => absurd h List.not_mem_nil)⟩)⟩)⟩)⟩)⟩)⟩)⟩)⟩)⟩)⟩)⟩)
theorem km_179 : ∀ t ∈ tm_179, s_tok 179 t := (List.forall_mem_cons.mpr ⟨s_lift mk_179 kb_179_0, (List.forall_mem_cons.mpr ⟨s_lift mk_179 kb_179_1, (List.forall_mem_cons.mpr ⟨s_lift mk_179 kb_179_2, (fun _ h => absurd h List.not_mem_nil)⟩)⟩)⟩)
theorem dX12_emits_0 : decode cX12_emits 0 = .ok (.aload_n 0, 1) := by decide +kernel
theorem dX12_emits_1 : decode cX12_emits 1 = .ok (.getfield 13, 3) := by decide +kernel
theorem dX12_emits_4 : decode cX12_emits 4 = .ok (.sipush 1301, 3) := by decide +kernel
theorem dX12_emits_7 : decode cX12_emits 7 = .ok (.iconst 2, 1) := by decide +kernel
theorem dX12_emits_8 : decode cX12_emits 8 = .ok (.aload_n 0, 1) := by decide +kernel
theorem dX12_emits_9 : decode cX12_emits 9 = .ok (.getfield 169, 3) := by decide +kernel
theorem dX12_emits_12 : decode cX12_emits 12 = .ok (.imul, 1) := by decide +kernel
theorem dX12_emits_13 : decode cX12_emits 13 = .ok (.iadd, 1) := by decide +kernel
theorem dX12_emits_14 : decode cX12_emits 14 = .ok (.iload_n 1, 1) := by decide +kernel
theorem dX12_emits_15 : decode cX12_emits 15 = .ok (.iastore, 1) := by decide +kernel
theorem dX12_emits_16 : decode cX12_emits 16 = .ok (.aload_n 0, 1) := by decide +kernel
theorem dX12_emits_17 : decode cX12_emits 17 = .ok (.getfield 13, 3) := by decide +kernel
theorem dX12_emits_20 : decode cX12_emits 20 = .ok (.sipush 1301, 3) := by decide +kernel
theorem dX12_emits_23 : decode cX12_emits 23 = .ok (.iconst 2, 1) := by decide +kernel
theorem dX12_emits_24 : decode cX12_emits 24 = .ok (.aload_n 0, 1) := by decide +kernel
theorem dX12_emits_25 : decode cX12_emits 25 = .ok (.getfield 169, 3) := by decide +kernel
theorem dX12_emits_28 : decode cX12_emits 28 = .ok (.imul, 1) := by decide +kernel
theorem dX12_emits_29 : decode cX12_emits 29 = .ok (.iadd, 1) := by decide +kernel
theorem dX12_emits_30 : decode cX12_emits 30 = .ok (.iconst 1, 1) := by decide +kernel
theorem dX12_emits_31 : decode cX12_emits 31 = .ok (.iadd, 1) := by decide +kernel
theorem dX12_emits_32 : decode cX12_emits 32 = .ok (.iload_n 2, 1) := by decide +kernel
theorem dX12_emits_33 : decode cX12_emits 33 = .ok (.iastore, 1) := by decide +kernel
theorem dX12_emits_34 : decode cX12_emits 34 = .ok (.aload_n 0, 1) := by decide +kernel
theorem dX12_emits_35 : decode cX12_emits 35 = .ok (.dup, 1) := by decide +kernel
theorem dX12_emits_36 : decode cX12_emits 36 = .ok (.getfield 169, 3) := by decide +kernel
theorem dX12_emits_39 : decode cX12_emits 39 = .ok (.iconst 1, 1) := by decide +kernel
theorem dX12_emits_40 : decode cX12_emits 40 = .ok (.iadd, 1) := by decide +kernel
theorem dX12_emits_41 : decode cX12_emits 41 = .ok (.putfield 169, 3) := by decide +kernel
theorem dX12_emits_44 : decode cX12_emits 44 = .ok (.return_, 1) := by decide +kernel
set_option maxRecDepth 20000 in
theorem kb_180_0 : ∀ q ∈ tb_180_0, s_atx 180 yX12_emits cX12_emits q.1 q.2 := (List.forall_mem_cons.mpr ⟨⟨s_ldAn dX12_emits_0 rfl, s_mo_ldA _ _⟩, (List.forall_mem_cons.mpr ⟨⟨s_getf (ci := 8) (k := 1) rfl (by decide) inX12 w_1222 dX12_emits_1, s_mo_getf _ _ _⟩, (List.forall_mem_cons.mpr ⟨⟨s_sipush dX12_emits_4 (by decide +kernel), s_mo_push _ _⟩, (List.forall_mem_cons.mpr ⟨⟨s_iconst dX12_emits_7 (by decide +kernel), s_mo_push _ _⟩, (List.forall_mem_cons.mpr ⟨⟨s_ldAn dX12_emits_8 rfl, s_mo_ldA _ _⟩, (List.forall_mem_cons.mpr ⟨⟨s_getf (ci := 8) (k := 15) rfl (by decide) inX12 w_1236 dX12_emits_9, s_mo_getf _ _ _⟩, (List.forall_mem_cons.mpr ⟨⟨s_imul dX12_emits_12, s_mo_bin _ _⟩, (List.forall_mem_cons.mpr ⟨⟨s_iadd dX12_emits_13, s_mo_bin _ _⟩, (List.forall_mem_cons.mpr ⟨⟨s_ldIn dX12_emits_14 rfl, s_mo_ldI _ _⟩, (List.forall_mem_cons.mpr ⟨⟨s_iast dX12_emits_15, s_mo_iast _⟩, (List.forall_mem_cons.mpr ⟨⟨s_ldAn dX12_emits_16 rfl, s_mo_ldA _ _⟩, (List.forall_mem_cons.mpr ⟨⟨s_getf (ci := 8) (k := 1) rfl (by decide) inX12 w_1222 dX12_emits_17, s_mo_getf _ _ _⟩, (List.forall_mem_cons.mpr ⟨⟨s_sipush dX12_emits_20 (by decide +kernel), s_mo_push _ _⟩, (List.forall_mem_cons.mpr ⟨⟨s_iconst dX12_emits_23 (by decide +kernel), s_mo_push _ _⟩, (List.forall_mem_cons.mpr ⟨⟨s_ldAn dX12_emits_24 rfl, s_mo_ldA _ _⟩, (List.forall_mem_cons.mpr ⟨⟨s_getf (ci := 8) (k := 15) rfl (by decide) inX12 w_1236 dX12_emits_25, s_mo_getf _ _ _⟩, (List.forall_mem_cons.mpr ⟨⟨s_imul dX12_emits_28, s_mo_bin _ _⟩, (List.forall_mem_cons.mpr ⟨⟨s_iadd dX12_emits_29, s_mo_bin _ _⟩, (List.forall_mem_cons.mpr ⟨⟨s_iconst dX12_emits_30 (by decide +kernel), s_mo_push _ _⟩, (List.forall_mem_cons.mpr ⟨⟨s_iadd dX12_emits_31, s_mo_bin _ _⟩, (List.forall_mem_cons.mpr ⟨⟨s_ldIn dX12_emits_32 rfl, s_mo_ldI _ _⟩, (List.forall_mem_cons.mpr ⟨⟨s_iast dX12_emits_33, s_mo_iast _⟩, (List.forall_mem_cons.mpr ⟨⟨s_ldAn dX12_emits_34 rfl, s_mo_ldA _ _⟩, (List.forall_mem_cons.mpr ⟨⟨s_dup dX12_emits_35, s_mo_dup _⟩, (List.forall_mem_cons.mpr ⟨⟨s_getf (ci := 8) (k := 15) rfl (by decide) inX12 w_1236 dX12_emits_36, s_mo_getf _ _ _⟩, (List.forall_mem_cons.mpr ⟨⟨s_iconst dX12_emits_39 (by decide +kernel), s_mo_push _ _⟩, (List.forall_mem_cons.mpr ⟨⟨s_iadd dX12_emits_40, s_mo_bin _ _⟩, (List.forall_mem_cons.mpr ⟨⟨s_putI (ci := 8) (k := 15) rfl (by decide) inX12 tyX12_ok nmX12 rfl rfl w_1236 dX12_emits_41, s_mo_putI _ _ _⟩, (List.forall_mem_cons.mpr ⟨s_r0 mk_180 dX12_emits_44, (fun _ h => absurd h List.not_mem_nil)⟩)⟩)⟩)⟩)⟩)⟩)⟩)⟩)⟩)⟩)⟩)⟩)⟩)⟩)⟩)⟩)⟩)⟩)⟩)⟩)⟩)⟩)⟩)⟩)⟩)⟩)⟩)⟩)⟩)
theorem km_180 : ∀ t ∈ tm_180, s_tok 180 t := (List.forall_mem_cons.mpr ⟨s_lift mk_180 kb_180_0, (fun _ h => absurd h List.not_mem_nil)⟩)
theorem dX12_readPart_0 : decode cX12_readPart 0 = .ok (.aload_n 0, 1) := by decide +kernel
theorem dX12_readPart_1 : decode cX12_readPart 1 = .ok (.invokevirtual 123, 3) := by decide +kernel
theorem dX12_readPart_4 : decode cX12_readPart 4 = .ok (.aload_n 0, 1) := by decide +kernel
theorem dX12_readPart_5 : decode cX12_readPart 5 = .ok (.getfield 98, 3) := by decide +kernel
theorem dX12_readPart_8 : decode cX12_readPart 8 = .ok (.aload_n 0, 1) := by decide +kernel
theorem dX12_readPart_9 : decode cX12_readPart 9 = .ok (.getfield 108, 3) := by decide +kernel
theorem dX12_readPart_12 : decode cX12_readPart 12 = .ok (.if_icmp .ne 22, 3) := by decide +kernel
theorem dX12_readPart_15 : decode cX12_readPart 15 = .ok (.aload_n 0, 1) := by decide +kernel
theorem dX12_readPart_16 : decode cX12_readPart 16 = .ok (.iconst 0, 1) := by decide +kernel
theorem dX12_readPart_17 : decode cX12_readPart 17 = .ok (.sipush 999, 3) := by decide +kernel
theorem dX12_readPart_20 : decode cX12_readPart 20 = .ok (.invokevirtual 130, 3) := by decide +kernel
theorem dX12_readPart_23 : decode cX12_readPart 23 = .ok (.istore_n 1, 1) := by decide +kernel
theorem dX12_readPart_24 : decode cX12_readPart 24 = .ok (.aload_n 0, 1) := by decide +kernel
theorem dX12_readPart_25 : decode cX12_readPart 25 = .ok (.bipush 7, 2) := by decide +kernel
theorem dX12_readPart_27 : decode cX12_readPart 27 = .ok (.iload_n 1, 1) := by decide +kernel
theorem dX12_readPart_28 : decode cX12_readPart 28 = .ok (.invokevirtual 172, 3) := by decide +kernel
theorem dX12_readPart_31 : decode cX12_readPart 31 = .ok (.goto 103, 3) := by decide +kernel
theorem dX12_readPart_34 : decode cX12_readPart 34 = .ok (.aload_n 0, 1) := by decide +kernel
theorem dX12_readPart_35 : decode cX12_readPart 35 = .ok (.ldc 149, 2) := by decide +kernel
theorem dX12_readPart_37 : decode cX12_readPart 37 = .ok (.invokevirtual 126, 3) := by decide +kernel
theorem dX12_readPart_40 : decode cX12_readPart 40 = .ok (.ifCond .eq 7, 3) := by decide +kernel
theorem dX12_readPart_43 : decode cX12_readPart 43 = .ok (.iconst 0, 1) := by decide +kernel
theorem dX12_readPart_44 : decode cX12_readPart 44 = .ok (.goto 83, 3) := by decide +kernel
theorem dX12_readPart_47 : decode cX12_readPart 47 = .ok (.aload_n 0, 1) := by decide +kernel
theorem dX12_readPart_48 : decode cX12_readPart 48 = .ok (.ldc 159, 2) := by decide +kernel
theorem dX12_readPart_50 : decode cX12_readPart 50 = .ok (.invokevirtual 126, 3) := by decide +kernel
theorem dX12_readPart_53 : decode cX12_readPart 53 = .ok (.ifCond .eq 7, 3) := by decide +kernel
theorem dX12_readPart_56 : decode cX12_readPart 56 = .ok (.iconst 1, 1) := by decide +kernel
theorem dX12_readPart_57 : decode cX12_readPart 57 = .ok (.goto 70, 3) := by decide +kernel
theorem dX12_readPart_60 : decode cX12_readPart 60 = .ok (.aload_n 0, 1) := by decide +kernel
theorem dX12_readPart_61 : decode cX12_readPart 61 = .ok (.ldc 176, 2) := by decide +kernel
theorem dX12_readPart_63 : decode cX12_readPart 63 = .ok (.invokevirtual 126, 3) := by decide +kernel
theorem dX12_readPart_66 : decode cX12_readPart 66 = .ok (.ifCond .eq 7, 3) := by decide +kernel
theorem dX12_readPart_69 : decode cX12_readPart 69 = .ok (.iconst 2, 1) := by decide +kernel
theorem dX12_readPart_70 : decode cX12_readPart 70 = .ok (.goto 57, 3) := by decide +kernel
theorem dX12_readPart_73 : decode cX12_readPart 73 = .ok (.aload_n 0, 1) := by decide +kernel
theorem dX12_readPart_74 : decode cX12_readPart 74 = .ok (.ldc 178, 2) := by decide +kernel
theorem dX12_readPart_76 : decode cX12_readPart 76 = .ok (.invokevirtual 126, 3) := by decide +kernel
theorem dX12_readPart_79 : decode cX12_readPart 79 = .ok (.ifCond .eq 7, 3) := by decide +kernel
theorem dX12_readPart_82 : decode cX12_readPart 82 = .ok (.iconst 3, 1) := by decide +kernel
theorem dX12_readPart_83 : decode cX12_readPart 83 = .ok (.goto 44, 3) := by decide +kernel
theorem dX12_readPart_86 : decode cX12_readPart 86 = .ok (.aload_n 0, 1) := by decide +kernel
theorem dX12_readPart_87 : decode cX12_readPart 87 = .ok (.ldc 180, 2) := by decide +kernel
theorem dX12_readPart_89 : decode cX12_readPart 89 = .ok (.invokevirtual 126, 3) := by decide +kernel
theorem dX12_readPart_92 : decode cX12_readPart 92 = .ok (.ifCond .eq 7, 3) := by decide +kernel
theorem dX12_readPart_95 : decode cX12_readPart 95 = .ok (.iconst 4, 1) := by decide +kernel
theorem dX12_readPart_96 : decode cX12_readPart 96 = .ok (.goto 31, 3) := by decide +kernel
theorem dX12_readPart_99 : decode cX12_readPart 99 = .ok (.aload_n 0, 1) := by decide +kernel
theorem dX12_readPart_100 : decode cX12_readPart 100 = .ok (.ldc 161, 2) := by decide +kernel
theorem dX12_readPart_102 : decode cX12_readPart 102 = .ok (.invokevirtual 126, 3) := by decide +kernel
theorem dX12_readPart_105 : decode cX12_readPart 105 = .ok (.ifCond .eq 7, 3) := by decide +kernel
theorem dX12_readPart_108 : decode cX12_readPart 108 = .ok (.iconst 5, 1) := by decide +kernel
theorem dX12_readPart_109 : decode cX12_readPart 109 = .ok (.goto 18, 3) := by decide +kernel
theorem dX12_readPart_112 : decode cX12_readPart 112 = .ok (.aload_n 0, 1) := by decide +kernel
theorem dX12_readPart_113 : decode cX12_readPart 113 = .ok (.ldc 182, 2) := by decide +kernel
theorem dX12_readPart_115 : decode cX12_readPart 115 = .ok (.invokevirtual 126, 3) := by decide +kernel
theorem dX12_readPart_118 : decode cX12_readPart 118 = .ok (.ifCond .eq 8, 3) := by decide +kernel
theorem dX12_readPart_121 : decode cX12_readPart 121 = .ok (.bipush 6, 2) := by decide +kernel
theorem dX12_readPart_123 : decode cX12_readPart 123 = .ok (.goto 4, 3) := by decide +kernel
theorem dX12_readPart_126 : decode cX12_readPart 126 = .ok (.iconst (-1), 1) := by decide +kernel
theorem dX12_readPart_127 : decode cX12_readPart 127 = .ok (.istore_n 1, 1) := by decide +kernel
theorem dX12_readPart_128 : decode cX12_readPart 128 = .ok (.aload_n 0, 1) := by decide +kernel
theorem dX12_readPart_129 : decode cX12_readPart 129 = .ok (.iload_n 1, 1) := by decide +kernel
theorem dX12_readPart_130 : decode cX12_readPart 130 = .ok (.iconst 0, 1) := by decide +kernel
theorem dX12_readPart_131 : decode cX12_readPart 131 = .ok (.invokevirtual 172, 3) := by decide +kernel
theorem dX12_readPart_134 : decode cX12_readPart 134 = .ok (.iload_n 1, 1) := by decide +kernel
theorem dX12_readPart_135 : decode cX12_readPart 135 = .ok (.ifCond .lt 7, 3) := by decide +kernel
theorem dX12_readPart_138 : decode cX12_readPart 138 = .ok (.iconst 1, 1) := by decide +kernel
theorem dX12_readPart_139 : decode cX12_readPart 139 = .ok (.goto 4, 3) := by decide +kernel
theorem dX12_readPart_142 : decode cX12_readPart 142 = .ok (.iconst 0, 1) := by decide +kernel
theorem dX12_readPart_143 : decode cX12_readPart 143 = .ok (.ireturn, 1) := by decide +kernel
set_option maxRecDepth 20000 in
theorem kb_181_0 : ∀ q ∈ tb_181_0, s_atx 181 yX12_readPart cX12_readPart q.1 q.2 := (List.forall_mem_cons.mpr ⟨⟨s_ldAn dX12_readPart_0 rfl, s_mo_ldA _ _⟩, (List.forall_mem_cons.mpr ⟨⟨s_sV mk_181 mk_169 ok_169 (by decide +kernel) dX12_readPart_1 w_1343 w_1345 wp_29 (Or.inr ⟨8, _, _, rfl, rfl⟩), s_h0 mk_181⟩, (List.forall_mem_cons.mpr ⟨⟨s_ldAn dX12_readPart_4 rfl, s_mo_ldA _ _⟩, (List.forall_mem_cons.mpr ⟨⟨s_getf (ci := 8) (k := 9) rfl (by decide) inX12 w_1230 dX12_readPart_5, s_mo_getf _ _ _⟩, (List.forall_mem_cons.mpr ⟨⟨s_ldAn dX12_readPart_8 rfl, s_mo_ldA _ _⟩, (List.forall_mem_cons.mpr ⟨⟨s_getf (ci := 8) (k := 11) rfl (by decide) inX12 w_1232 dX12_readPart_9, s_mo_getf _ _ _⟩, (List.forall_mem_cons.mpr ⟨⟨s_icne dX12_readPart_12 (by decide), s_mo_icne _ _⟩, (List.forall_mem_cons.mpr ⟨⟨s_ldAn dX12_readPart_15 rfl, s_mo_ldA _ _⟩, (List.forall_mem_cons.mpr ⟨⟨s_iconst dX12_readPart_16 (by decide +kernel), s_mo_push _ _⟩, (List.forall_mem_cons.mpr ⟨⟨s_sipush dX12_readPart_17 (by decide +kernel), s_mo_push _ _⟩, (List.forall_mem_cons.mpr ⟨⟨s_sV mk_181 mk_173 ok_173 (by decide +kernel) dX12_readPart_20 w_1362 w_1364 wp_33 (Or.inr ⟨8, _, _, rfl, rfl⟩), s_h0 mk_181⟩, (List.forall_mem_cons.mpr ⟨⟨s_stIn dX12_readPart_23 rfl, s_mo_stI _ _⟩, (List.forall_mem_cons.mpr ⟨⟨s_ldAn dX12_readPart_24 rfl, s_mo_ldA _ _⟩, (List.forall_mem_cons.mpr ⟨⟨s_bipush dX12_readPart_25 (by decide +kernel), s_mo_push _ _⟩, (List.forall_mem_cons.mpr ⟨⟨s_ldIn dX12_readPart_27 rfl, s_mo_ldI _ _⟩, (List.forall_mem_cons.mpr ⟨⟨s_sV mk_181 mk_180 ok_180 (by decide +kernel) dX12_readPart_28 w_1420 w_1422 wp_44 (Or.inr ⟨8, _, _, rfl, rfl⟩), s_h0 mk_181⟩, (List.forall_mem_cons.mpr ⟨⟨s_goto dX12_readPart_31 (by decide), s_mo_goto _⟩, (List.forall_mem_cons.mpr ⟨⟨s_ldAn dX12_readPart_34 rfl, s_mo_ldA _ _⟩, (List.forall_mem_cons.mpr ⟨⟨s_ldcS (tx := "thick") (List.mem_of_getElem? (i := 25) rfl) dX12_readPart_35, s_mo_push _ _⟩, (List.forall_mem_cons.mpr ⟨⟨s_sV mk_181 mk_170 ok_170 (by decide +kernel) dX12_readPart_37 w_1352 w_1354 wp_31 (Or.inr ⟨8, _, _, rfl, rfl⟩), s_h0 mk_181⟩, (List.forall_mem_cons.mpr ⟨⟨s_ifeq dX12_readPart_40 (by decide), s_mo_ifeq _ _⟩, (List.forall_mem_cons.mpr ⟨⟨s_iconst dX12_readPart_43 (by decide +kernel), s_mo_push _ _⟩, (List.forall_mem_cons.mpr ⟨⟨s_goto dX12_readPart_44 (by decide), s_mo_goto _⟩, (List.forall_mem_cons.mpr ⟨⟨s_ldAn dX12_readPart_47 rfl, s_mo_ldA _ _⟩, (List.forall_mem_cons.mpr ⟨⟨s_ldcS (tx := "sand") (List.mem_of_getElem? (i := 28) rfl) dX12_readPart_48, s_mo_push _ _⟩, (List.forall_mem_cons.mpr ⟨⟨s_sV mk_181 mk_170 ok_170 (by decide +kernel) dX12_readPart_50 w_1352 w_1354 wp_31 (Or.inr ⟨8, _, _, rfl, rfl⟩), s_h0 mk_181⟩, (List.forall_mem_cons.mpr ⟨⟨s_ifeq dX12_readPart_53 (by decide), s_mo_ifeq _ _⟩, (List.forall_mem_cons.mpr ⟨⟨s_iconst dX12_readPart_56 (by decide +kernel), s_mo_push _ _⟩, (List.forall_mem_cons.mpr ⟨⟨s_goto dX12_readPart_57 (by decide), s_mo_goto _⟩, (List.forall_mem_cons.mpr ⟨⟨s_ldAn dX12_readPart_60 rfl, s_mo_ldA _ _⟩, (List.forall_mem_cons.mpr ⟨⟨s_ldcS (tx := "cracks") (List.mem_of_getElem? (i := 39) rfl) dX12_readPart_61, s_mo_push _ _⟩, (List.forall_mem_cons.mpr ⟨⟨s_sV mk_181 mk_170 ok_170 (by decide +kernel) dX12_readPart_63 w_1352 w_1354 wp_31 (Or.inr ⟨8, _, _, rfl, rfl⟩), s_h0 mk_181⟩, (fun _ h => absurd h List.not_mem_nil)⟩)⟩)⟩)⟩)⟩)⟩)⟩)⟩)⟩)⟩)⟩)⟩)⟩)⟩)⟩)⟩)⟩)⟩)⟩)⟩)⟩)⟩)⟩)⟩)⟩)⟩)⟩)⟩)⟩)⟩)⟩)⟩)
set_option maxRecDepth 20000 in
theorem kb_181_1 : ∀ q ∈ tb_181_1, s_atx 181 yX12_readPart cX12_readPart q.1 q.2 := (List.forall_mem_cons.mpr ⟨⟨s_ifeq dX12_readPart_66 (by decide), s_mo_ifeq _ _⟩, (List.forall_mem_cons.mpr ⟨⟨s_iconst dX12_readPart_69 (by decide +kernel), s_mo_push _ _⟩, (List.forall_mem_cons.mpr ⟨⟨s_goto dX12_readPart_70 (by decide), s_mo_goto _⟩, (List.forall_mem_cons.mpr ⟨⟨s_ldAn dX12_readPart_73 rfl, s_mo_ldA _ _⟩, (List.forall_mem_cons.mpr ⟨⟨s_ldcS (tx := "hour") (List.mem_of_getElem? (i := 40) rfl) dX12_readPart_74, s_mo_push _ _⟩, (List.forall_mem_cons.mpr ⟨⟨s_sV mk_181 mk_170 ok_170 (by decide +kernel) dX12_readPart_76 w_1352 w_1354 wp_31 (Or.inr ⟨8, _, _, rfl, rfl⟩), s_h0 mk_181⟩, (List.forall_mem_cons.mpr ⟨⟨s_ifeq dX12_readPart_79 (by decide), s_mo_ifeq _ _⟩, (List.forall_mem_cons.mpr ⟨⟨s_iconst dX12_readPart_82 (by decide +kernel), s_mo_push _ _⟩, (List.forall_mem_cons.mpr ⟨⟨s_goto dX12_readPart_83 (by decide), s_mo_goto _⟩, (List.forall_mem_cons.mpr ⟨⟨s_ldAn dX12_readPart_86 rfl, s_mo_ldA _ _⟩, (List.forall_mem_cons.mpr ⟨⟨s_ldcS (tx := "light") (List.mem_of_getElem? (i := 41) rfl) dX12_readPart_87, s_mo_push _ _⟩, (List.forall_mem_cons.mpr ⟨⟨s_sV mk_181 mk_170 ok_170 (by decide +kernel) dX12_readPart_89 w_1352 w_1354 wp_31 (Or.inr ⟨8, _, _, rfl, rfl⟩), s_h0 mk_181⟩, (List.forall_mem_cons.mpr ⟨⟨s_ifeq dX12_readPart_92 (by decide), s_mo_ifeq _ _⟩, (List.forall_mem_cons.mpr ⟨⟨s_iconst dX12_readPart_95 (by decide +kernel), s_mo_push _ _⟩, (List.forall_mem_cons.mpr ⟨⟨s_goto dX12_readPart_96 (by decide), s_mo_goto _⟩, (List.forall_mem_cons.mpr ⟨⟨s_ldAn dX12_readPart_99 rfl, s_mo_ldA _ _⟩, (List.forall_mem_cons.mpr ⟨⟨s_ldcS (tx := "owner") (List.mem_of_getElem? (i := 29) rfl) dX12_readPart_100, s_mo_push _ _⟩, (List.forall_mem_cons.mpr ⟨⟨s_sV mk_181 mk_170 ok_170 (by decide +kernel) dX12_readPart_102 w_1352 w_1354 wp_31 (Or.inr ⟨8, _, _, rfl, rfl⟩), s_h0 mk_181⟩, (List.forall_mem_cons.mpr ⟨⟨s_ifeq dX12_readPart_105 (by decide), s_mo_ifeq _ _⟩, (List.forall_mem_cons.mpr ⟨⟨s_iconst dX12_readPart_108 (by decide +kernel), s_mo_push _ _⟩, (List.forall_mem_cons.mpr ⟨⟨s_goto dX12_readPart_109 (by decide), s_mo_goto _⟩, (List.forall_mem_cons.mpr ⟨⟨s_ldAn dX12_readPart_112 rfl, s_mo_ldA _ _⟩, (List.forall_mem_cons.mpr ⟨⟨s_ldcS (tx := "load") (List.mem_of_getElem? (i := 42) rfl) dX12_readPart_113, s_mo_push _ _⟩, (List.forall_mem_cons.mpr ⟨⟨s_sV mk_181 mk_170 ok_170 (by decide +kernel) dX12_readPart_115 w_1352 w_1354 wp_31 (Or.inr ⟨8, _, _, rfl, rfl⟩), s_h0 mk_181⟩, (List.forall_mem_cons.mpr ⟨⟨s_ifeq dX12_readPart_118 (by decide), s_mo_ifeq _ _⟩, (List.forall_mem_cons.mpr ⟨⟨s_bipush dX12_readPart_121 (by decide +kernel), s_mo_push _ _⟩, (List.forall_mem_cons.mpr ⟨⟨s_goto dX12_readPart_123 (by decide), s_mo_goto _⟩, (List.forall_mem_cons.mpr ⟨⟨s_iconst dX12_readPart_126 (by decide +kernel), s_mo_push _ _⟩, (List.forall_mem_cons.mpr ⟨⟨s_stIn dX12_readPart_127 rfl, s_mo_stI _ _⟩, (fun _ h => absurd h List.not_mem_nil)⟩)⟩)⟩)⟩)⟩)⟩)⟩)⟩)⟩)⟩)⟩)⟩)⟩)⟩)⟩)⟩)⟩)⟩)⟩)⟩)⟩)⟩)⟩)⟩)⟩)⟩)⟩)⟩)⟩)
set_option maxRecDepth 20000 in
theorem kb_181_2 : ∀ q ∈ tb_181_2, s_atx 181 yX12_readPart cX12_readPart q.1 q.2 := (List.forall_mem_cons.mpr ⟨⟨s_ldAn dX12_readPart_128 rfl, s_mo_ldA _ _⟩, (List.forall_mem_cons.mpr ⟨⟨s_ldIn dX12_readPart_129 rfl, s_mo_ldI _ _⟩, (List.forall_mem_cons.mpr ⟨⟨s_iconst dX12_readPart_130 (by decide +kernel), s_mo_push _ _⟩, (List.forall_mem_cons.mpr ⟨⟨s_sV mk_181 mk_180 ok_180 (by decide +kernel) dX12_readPart_131 w_1420 w_1422 wp_44 (Or.inr ⟨8, _, _, rfl, rfl⟩), s_h0 mk_181⟩, (List.forall_mem_cons.mpr ⟨⟨s_ldIn dX12_readPart_134 rfl, s_mo_ldI _ _⟩, (List.forall_mem_cons.mpr ⟨⟨s_iflt dX12_readPart_135 (by decide), s_mo_iflt _ _⟩, (List.forall_mem_cons.mpr ⟨⟨s_iconst dX12_readPart_138 (by decide +kernel), s_mo_push _ _⟩, (List.forall_mem_cons.mpr ⟨⟨s_goto dX12_readPart_139 (by decide), s_mo_goto _⟩, (List.forall_mem_cons.mpr ⟨⟨s_iconst dX12_readPart_142 (by decide +kernel), s_mo_push _ _⟩, (List.forall_mem_cons.mpr ⟨s_r2 mk_181 dX12_readPart_143, (fun _ h => absurd h List.not_mem_nil)⟩)⟩)⟩)⟩)⟩)⟩)⟩)⟩)⟩)⟩)
theorem km_181 : ∀ t ∈ tm_181, s_tok 181 t := (List.forall_mem_cons.mpr ⟨s_lift mk_181 kb_181_0, (List.forall_mem_cons.mpr ⟨s_lift mk_181 kb_181_1, (List.forall_mem_cons.mpr ⟨s_lift mk_181 kb_181_2, (fun _ h => absurd h List.not_mem_nil)⟩)⟩)⟩)
theorem dX12_readSum_0 : decode cX12_readSum 0 = .ok (.aload_n 0, 1) := by decide +kernel
theorem dX12_readSum_1 : decode cX12_readSum 1 = .ok (.invokevirtual 184, 3) := by decide +kernel
theorem dX12_readSum_4 : decode cX12_readSum 4 = .ok (.ifCond .ne 5, 3) := by decide +kernel
theorem dX12_readSum_7 : decode cX12_readSum 7 = .ok (.iconst 0, 1) := by decide +kernel
theorem dX12_readSum_8 : decode cX12_readSum 8 = .ok (.ireturn, 1) := by decide +kernel
theorem dX12_readSum_9 : decode cX12_readSum 9 = .ok (.aload_n 0, 1) := by decide +kernel
theorem dX12_readSum_10 : decode cX12_readSum 10 = .ok (.bipush 43, 2) := by decide +kernel
theorem dX12_readSum_12 : decode cX12_readSum 12 = .ok (.invokevirtual 187, 3) := by decide +kernel
theorem dX12_readSum_15 : decode cX12_readSum 15 = .ok (.ifCond .eq 22, 3) := by decide +kernel
theorem dX12_readSum_18 : decode cX12_readSum 18 = .ok (.aload_n 0, 1) := by decide +kernel
theorem dX12_readSum_19 : decode cX12_readSum 19 = .ok (.invokevirtual 184, 3) := by decide +kernel
theorem dX12_readSum_22 : decode cX12_readSum 22 = .ok (.ifCond .ne 5, 3) := by decide +kernel
theorem dX12_readSum_25 : decode cX12_readSum 25 = .ok (.iconst 0, 1) := by decide +kernel
theorem dX12_readSum_26 : decode cX12_readSum 26 = .ok (.ireturn, 1) := by decide +kernel
theorem dX12_readSum_27 : decode cX12_readSum 27 = .ok (.aload_n 0, 1) := by decide +kernel
theorem dX12_readSum_28 : decode cX12_readSum 28 = .ok (.bipush 8, 2) := by decide +kernel
theorem dX12_readSum_30 : decode cX12_readSum 30 = .ok (.iconst 0, 1) := by decide +kernel
theorem dX12_readSum_31 : decode cX12_readSum 31 = .ok (.invokevirtual 172, 3) := by decide +kernel
theorem dX12_readSum_34 : decode cX12_readSum 34 = .ok (.goto (-25), 3) := by decide +kernel
theorem dX12_readSum_37 : decode cX12_readSum 37 = .ok (.iconst 1, 1) := by decide +kernel
theorem dX12_readSum_38 : decode cX12_readSum 38 = .ok (.ireturn, 1) := by decide +kernel
set_option maxRecDepth 20000 in
theorem kb_182_0 : ∀ q ∈ tb_182_0, s_atx 182 yX12_readSum cX12_readSum q.1 q.2 := (List.forall_mem_cons.mpr ⟨⟨s_ldAn dX12_readSum_0 rfl, s_mo_ldA _ _⟩, (List.forall_mem_cons.mpr ⟨⟨s_sV mk_182 mk_181 ok_181 (by decide +kernel) dX12_readSum_1 w_1428 w_1430 wp_46 (Or.inr ⟨8, _, _, rfl, rfl⟩), s_h0 mk_182⟩, (List.forall_mem_cons.mpr ⟨⟨s_ifne dX12_readSum_4 (by decide), s_mo_ifne _ _⟩, (List.forall_mem_cons.mpr ⟨⟨s_iconst dX12_readSum_7 (by decide +kernel), s_mo_push _ _⟩, (List.forall_mem_cons.mpr ⟨s_r2 mk_182 dX12_readSum_8, (List.forall_mem_cons.mpr ⟨⟨s_ldAn dX12_readSum_9 rfl, s_mo_ldA _ _⟩, (List.forall_mem_cons.mpr ⟨⟨s_bipush dX12_readSum_10 (by decide +kernel), s_mo_push _ _⟩, (List.forall_mem_cons.mpr ⟨⟨s_sV mk_182 mk_172 ok_172 (by decide +kernel) dX12_readSum_12 w_1415 w_1417 wp_43 (Or.inr ⟨8, _, _, rfl, rfl⟩), s_h0 mk_182⟩, (List.forall_mem_cons.mpr ⟨⟨s_ifeq dX12_readSum_15 (by decide), s_mo_ifeq _ _⟩, (List.forall_mem_cons.mpr ⟨⟨s_ldAn dX12_readSum_18 rfl, s_mo_ldA _ _⟩, (List.forall_mem_cons.mpr ⟨⟨s_sV mk_182 mk_181 ok_181 (by decide +kernel) dX12_readSum_19 w_1428 w_1430 wp_46 (Or.inr ⟨8, _, _, rfl, rfl⟩), s_h0 mk_182⟩, (List.forall_mem_cons.mpr ⟨⟨s_ifne dX12_readSum_22 (by decide), s_mo_ifne _ _⟩, (List.forall_mem_cons.mpr ⟨⟨s_iconst dX12_readSum_25 (by decide +kernel), s_mo_push _ _⟩, (List.forall_mem_cons.mpr ⟨s_r2 mk_182 dX12_readSum_26, (List.forall_mem_cons.mpr ⟨⟨s_ldAn dX12_readSum_27 rfl, s_mo_ldA _ _⟩, (List.forall_mem_cons.mpr ⟨⟨s_bipush dX12_readSum_28 (by decide +kernel), s_mo_push _ _⟩, (List.forall_mem_cons.mpr ⟨⟨s_iconst dX12_readSum_30 (by decide +kernel), s_mo_push _ _⟩, (List.forall_mem_cons.mpr ⟨⟨s_sV mk_182 mk_180 ok_180 (by decide +kernel) dX12_readSum_31 w_1420 w_1422 wp_44 (Or.inr ⟨8, _, _, rfl, rfl⟩), s_h0 mk_182⟩, (List.forall_mem_cons.mpr ⟨⟨s_goto dX12_readSum_34 (by decide), s_mo_goto _⟩, (List.forall_mem_cons.mpr ⟨⟨s_iconst dX12_readSum_37 (by decide +kernel), s_mo_push _ _⟩, (List.forall_mem_cons.mpr ⟨s_r2 mk_182 dX12_readSum_38, (fun _ h => absurd h List.not_mem_nil)⟩)⟩)⟩)⟩)⟩)⟩)⟩)⟩)⟩)⟩)⟩)⟩)⟩)⟩)⟩)⟩)⟩)⟩)⟩)⟩)⟩)
theorem km_182 : ∀ t ∈ tm_182, s_tok 182 t := (List.forall_mem_cons.mpr ⟨s_lift mk_182 kb_182_0, (fun _ h => absurd h List.not_mem_nil)⟩)
theorem dX12_readAtom_0 : decode cX12_readAtom 0 = .ok (.aload_n 0, 1) := by decide +kernel
theorem dX12_readAtom_1 : decode cX12_readAtom 1 = .ok (.bipush 40, 2) := by decide +kernel
theorem dX12_readAtom_3 : decode cX12_readAtom 3 = .ok (.invokevirtual 187, 3) := by decide +kernel
theorem dX12_readAtom_6 : decode cX12_readAtom 6 = .ok (.ifCond .eq 50, 3) := by decide +kernel
theorem dX12_readAtom_9 : decode cX12_readAtom 9 = .ok (.aload_n 0, 1) := by decide +kernel
theorem dX12_readAtom_10 : decode cX12_readAtom 10 = .ok (.getfield 191, 3) := by decide +kernel
theorem dX12_readAtom_13 : decode cX12_readAtom 13 = .ok (.bipush 6, 2) := by decide +kernel
theorem dX12_readAtom_15 : decode cX12_readAtom 15 = .ok (.if_icmp .ne 5, 3) := by decide +kernel
theorem dX12_readAtom_18 : decode cX12_readAtom 18 = .ok (.iconst 0, 1) := by decide +kernel
theorem dX12_readAtom_19 : decode cX12_readAtom 19 = .ok (.ireturn, 1) := by decide +kernel
theorem dX12_readAtom_20 : decode cX12_readAtom 20 = .ok (.aload_n 0, 1) := by decide +kernel
theorem dX12_readAtom_21 : decode cX12_readAtom 21 = .ok (.dup, 1) := by decide +kernel
theorem dX12_readAtom_22 : decode cX12_readAtom 22 = .ok (.getfield 191, 3) := by decide +kernel
theorem dX12_readAtom_25 : decode cX12_readAtom 25 = .ok (.iconst 1, 1) := by decide +kernel
theorem dX12_readAtom_26 : decode cX12_readAtom 26 = .ok (.iadd, 1) := by decide +kernel
theorem dX12_readAtom_27 : decode cX12_readAtom 27 = .ok (.putfield 191, 3) := by decide +kernel
theorem dX12_readAtom_30 : decode cX12_readAtom 30 = .ok (.aload_n 0, 1) := by decide +kernel
theorem dX12_readAtom_31 : decode cX12_readAtom 31 = .ok (.invokevirtual 194, 3) := by decide +kernel
theorem dX12_readAtom_34 : decode cX12_readAtom 34 = .ok (.ifCond .ne 5, 3) := by decide +kernel
theorem dX12_readAtom_37 : decode cX12_readAtom 37 = .ok (.iconst 0, 1) := by decide +kernel
theorem dX12_readAtom_38 : decode cX12_readAtom 38 = .ok (.ireturn, 1) := by decide +kernel
theorem dX12_readAtom_39 : decode cX12_readAtom 39 = .ok (.aload_n 0, 1) := by decide +kernel
theorem dX12_readAtom_40 : decode cX12_readAtom 40 = .ok (.dup, 1) := by decide +kernel
theorem dX12_readAtom_41 : decode cX12_readAtom 41 = .ok (.getfield 191, 3) := by decide +kernel
theorem dX12_readAtom_44 : decode cX12_readAtom 44 = .ok (.iconst 1, 1) := by decide +kernel
theorem dX12_readAtom_45 : decode cX12_readAtom 45 = .ok (.isub, 1) := by decide +kernel
theorem dX12_readAtom_46 : decode cX12_readAtom 46 = .ok (.putfield 191, 3) := by decide +kernel
theorem dX12_readAtom_49 : decode cX12_readAtom 49 = .ok (.aload_n 0, 1) := by decide +kernel
theorem dX12_readAtom_50 : decode cX12_readAtom 50 = .ok (.bipush 41, 2) := by decide +kernel
theorem dX12_readAtom_52 : decode cX12_readAtom 52 = .ok (.invokevirtual 187, 3) := by decide +kernel
theorem dX12_readAtom_55 : decode cX12_readAtom 55 = .ok (.ireturn, 1) := by decide +kernel
theorem dX12_readAtom_56 : decode cX12_readAtom 56 = .ok (.aload_n 0, 1) := by decide +kernel
theorem dX12_readAtom_57 : decode cX12_readAtom 57 = .ok (.ldc 197, 2) := by decide +kernel
theorem dX12_readAtom_59 : decode cX12_readAtom 59 = .ok (.invokevirtual 140, 3) := by decide +kernel
theorem dX12_readAtom_62 : decode cX12_readAtom 62 = .ok (.ifCond .eq 52, 3) := by decide +kernel
theorem dX12_readAtom_65 : decode cX12_readAtom 65 = .ok (.aload_n 0, 1) := by decide +kernel
theorem dX12_readAtom_66 : decode cX12_readAtom 66 = .ok (.getfield 191, 3) := by decide +kernel
theorem dX12_readAtom_69 : decode cX12_readAtom 69 = .ok (.bipush 6, 2) := by decide +kernel
theorem dX12_readAtom_71 : decode cX12_readAtom 71 = .ok (.if_icmp .ne 5, 3) := by decide +kernel
theorem dX12_readAtom_74 : decode cX12_readAtom 74 = .ok (.iconst 0, 1) := by decide +kernel
theorem dX12_readAtom_75 : decode cX12_readAtom 75 = .ok (.ireturn, 1) := by decide +kernel
theorem dX12_readAtom_76 : decode cX12_readAtom 76 = .ok (.aload_n 0, 1) := by decide +kernel
theorem dX12_readAtom_77 : decode cX12_readAtom 77 = .ok (.dup, 1) := by decide +kernel
theorem dX12_readAtom_78 : decode cX12_readAtom 78 = .ok (.getfield 191, 3) := by decide +kernel
theorem dX12_readAtom_81 : decode cX12_readAtom 81 = .ok (.iconst 1, 1) := by decide +kernel
theorem dX12_readAtom_82 : decode cX12_readAtom 82 = .ok (.iadd, 1) := by decide +kernel
theorem dX12_readAtom_83 : decode cX12_readAtom 83 = .ok (.putfield 191, 3) := by decide +kernel
theorem dX12_readAtom_86 : decode cX12_readAtom 86 = .ok (.aload_n 0, 1) := by decide +kernel
theorem dX12_readAtom_87 : decode cX12_readAtom 87 = .ok (.invokevirtual 199, 3) := by decide +kernel
theorem dX12_readAtom_90 : decode cX12_readAtom 90 = .ok (.ifCond .ne 5, 3) := by decide +kernel
theorem dX12_readAtom_93 : decode cX12_readAtom 93 = .ok (.iconst 0, 1) := by decide +kernel
theorem dX12_readAtom_94 : decode cX12_readAtom 94 = .ok (.ireturn, 1) := by decide +kernel
theorem dX12_readAtom_95 : decode cX12_readAtom 95 = .ok (.aload_n 0, 1) := by decide +kernel
theorem dX12_readAtom_96 : decode cX12_readAtom 96 = .ok (.dup, 1) := by decide +kernel
theorem dX12_readAtom_97 : decode cX12_readAtom 97 = .ok (.getfield 191, 3) := by decide +kernel
theorem dX12_readAtom_100 : decode cX12_readAtom 100 = .ok (.iconst 1, 1) := by decide +kernel
theorem dX12_readAtom_101 : decode cX12_readAtom 101 = .ok (.isub, 1) := by decide +kernel
theorem dX12_readAtom_102 : decode cX12_readAtom 102 = .ok (.putfield 191, 3) := by decide +kernel
theorem dX12_readAtom_105 : decode cX12_readAtom 105 = .ok (.aload_n 0, 1) := by decide +kernel
theorem dX12_readAtom_106 : decode cX12_readAtom 106 = .ok (.bipush 11, 2) := by decide +kernel
theorem dX12_readAtom_108 : decode cX12_readAtom 108 = .ok (.iconst 0, 1) := by decide +kernel
theorem dX12_readAtom_109 : decode cX12_readAtom 109 = .ok (.invokevirtual 172, 3) := by decide +kernel
theorem dX12_readAtom_112 : decode cX12_readAtom 112 = .ok (.iconst 1, 1) := by decide +kernel
theorem dX12_readAtom_113 : decode cX12_readAtom 113 = .ok (.ireturn, 1) := by decide +kernel
theorem dX12_readAtom_114 : decode cX12_readAtom 114 = .ok (.aload_n 0, 1) := by decide +kernel
theorem dX12_readAtom_115 : decode cX12_readAtom 115 = .ok (.invokevirtual 202, 3) := by decide +kernel
theorem dX12_readAtom_118 : decode cX12_readAtom 118 = .ok (.ifCond .ne 5, 3) := by decide +kernel
theorem dX12_readAtom_121 : decode cX12_readAtom 121 = .ok (.iconst 0, 1) := by decide +kernel
theorem dX12_readAtom_122 : decode cX12_readAtom 122 = .ok (.ireturn, 1) := by decide +kernel
theorem dX12_readAtom_123 : decode cX12_readAtom 123 = .ok (.aload_n 0, 1) := by decide +kernel
theorem dX12_readAtom_124 : decode cX12_readAtom 124 = .ok (.bipush 60, 2) := by decide +kernel
theorem dX12_readAtom_126 : decode cX12_readAtom 126 = .ok (.invokevirtual 187, 3) := by decide +kernel
theorem dX12_readAtom_129 : decode cX12_readAtom 129 = .ok (.istore_n 1, 1) := by decide +kernel
theorem dX12_readAtom_130 : decode cX12_readAtom 130 = .ok (.iload_n 1, 1) := by decide +kernel
theorem dX12_readAtom_131 : decode cX12_readAtom 131 = .ok (.ifCond .ne 12, 3) := by decide +kernel
theorem dX12_readAtom_134 : decode cX12_readAtom 134 = .ok (.aload_n 0, 1) := by decide +kernel
theorem dX12_readAtom_135 : decode cX12_readAtom 135 = .ok (.bipush 62, 2) := by decide +kernel
theorem dX12_readAtom_137 : decode cX12_readAtom 137 = .ok (.invokevirtual 187, 3) := by decide +kernel
theorem dX12_readAtom_140 : decode cX12_readAtom 140 = .ok (.ifCond .eq 10, 3) := by decide +kernel
theorem dX12_readAtom_143 : decode cX12_readAtom 143 = .ok (.aload_n 0, 1) := by decide +kernel
theorem dX12_readAtom_144 : decode cX12_readAtom 144 = .ok (.invokevirtual 202, 3) := by decide +kernel
theorem dX12_readAtom_147 : decode cX12_readAtom 147 = .ok (.ifCond .ne 5, 3) := by decide +kernel
theorem dX12_readAtom_150 : decode cX12_readAtom 150 = .ok (.iconst 0, 1) := by decide +kernel
theorem dX12_readAtom_151 : decode cX12_readAtom 151 = .ok (.ireturn, 1) := by decide +kernel
theorem dX12_readAtom_152 : decode cX12_readAtom 152 = .ok (.aload_n 0, 1) := by decide +kernel
theorem dX12_readAtom_153 : decode cX12_readAtom 153 = .ok (.iload_n 1, 1) := by decide +kernel
theorem dX12_readAtom_154 : decode cX12_readAtom 154 = .ok (.ifCond .eq 8, 3) := by decide +kernel
theorem dX12_readAtom_157 : decode cX12_readAtom 157 = .ok (.bipush 9, 2) := by decide +kernel
theorem dX12_readAtom_159 : decode cX12_readAtom 159 = .ok (.goto 5, 3) := by decide +kernel
theorem dX12_readAtom_162 : decode cX12_readAtom 162 = .ok (.bipush 10, 2) := by decide +kernel
theorem dX12_readAtom_164 : decode cX12_readAtom 164 = .ok (.iconst 0, 1) := by decide +kernel
theorem dX12_readAtom_165 : decode cX12_readAtom 165 = .ok (.invokevirtual 172, 3) := by decide +kernel
theorem dX12_readAtom_168 : decode cX12_readAtom 168 = .ok (.iconst 1, 1) := by decide +kernel
theorem dX12_readAtom_169 : decode cX12_readAtom 169 = .ok (.ireturn, 1) := by decide +kernel
set_option maxRecDepth 20000 in
theorem kb_183_0 : ∀ q ∈ tb_183_0, s_atx 183 yX12_readAtom cX12_readAtom q.1 q.2 := (List.forall_mem_cons.mpr ⟨⟨s_ldAn dX12_readAtom_0 rfl, s_mo_ldA _ _⟩, (List.forall_mem_cons.mpr ⟨⟨s_bipush dX12_readAtom_1 (by decide +kernel), s_mo_push _ _⟩, (List.forall_mem_cons.mpr ⟨⟨s_sV mk_183 mk_172 ok_172 (by decide +kernel) dX12_readAtom_3 w_1415 w_1417 wp_43 (Or.inr ⟨8, _, _, rfl, rfl⟩), s_h0 mk_183⟩, (List.forall_mem_cons.mpr ⟨⟨s_ifeq dX12_readAtom_6 (by decide), s_mo_ifeq _ _⟩, (List.forall_mem_cons.mpr ⟨⟨s_ldAn dX12_readAtom_9 rfl, s_mo_ldA _ _⟩, (List.forall_mem_cons.mpr ⟨⟨s_getf (ci := 8) (k := 12) rfl (by decide) inX12 w_1233 dX12_readAtom_10, s_mo_getf _ _ _⟩, (List.forall_mem_cons.mpr ⟨⟨s_bipush dX12_readAtom_13 (by decide +kernel), s_mo_push _ _⟩, (List.forall_mem_cons.mpr ⟨⟨s_icne dX12_readAtom_15 (by decide), s_mo_icne _ _⟩, (List.forall_mem_cons.mpr ⟨⟨s_iconst dX12_readAtom_18 (by decide +kernel), s_mo_push _ _⟩, (List.forall_mem_cons.mpr ⟨s_r2 mk_183 dX12_readAtom_19, (List.forall_mem_cons.mpr ⟨⟨s_ldAn dX12_readAtom_20 rfl, s_mo_ldA _ _⟩, (List.forall_mem_cons.mpr ⟨⟨s_dup dX12_readAtom_21, s_mo_dup _⟩, (List.forall_mem_cons.mpr ⟨⟨s_getf (ci := 8) (k := 12) rfl (by decide) inX12 w_1233 dX12_readAtom_22, s_mo_getf _ _ _⟩, (List.forall_mem_cons.mpr ⟨⟨s_iconst dX12_readAtom_25 (by decide +kernel), s_mo_push _ _⟩, (List.forall_mem_cons.mpr ⟨⟨s_iadd dX12_readAtom_26, s_mo_bin _ _⟩, (List.forall_mem_cons.mpr ⟨⟨s_putI (ci := 8) (k := 12) rfl (by decide) inX12 tyX12_ok nmX12 rfl rfl w_1233 dX12_readAtom_27, s_mo_putI _ _ _⟩, (List.forall_mem_cons.mpr ⟨⟨s_ldAn dX12_readAtom_30 rfl, s_mo_ldA _ _⟩, (List.forall_mem_cons.mpr ⟨⟨s_sV mk_183 mk_185 ok_185 (by decide +kernel) dX12_readAtom_31 w_1403 w_1405 wp_40 (Or.inr ⟨8, _, _, rfl, rfl⟩), s_h0 mk_183⟩, (List.forall_mem_cons.mpr ⟨⟨s_ifne dX12_readAtom_34 (by decide), s_mo_ifne _ _⟩, (List.forall_mem_cons.mpr ⟨⟨s_iconst dX12_readAtom_37 (by decide +kernel), s_mo_push _ _⟩, (List.forall_mem_cons.mpr ⟨s_r2 mk_183 dX12_readAtom_38, (List.forall_mem_cons.mpr ⟨⟨s_ldAn dX12_readAtom_39 rfl, s_mo_ldA _ _⟩, (List.forall_mem_cons.mpr ⟨⟨s_dup dX12_readAtom_40, s_mo_dup _⟩, (List.forall_mem_cons.mpr ⟨⟨s_getf (ci := 8) (k := 12) rfl (by decide) inX12 w_1233 dX12_readAtom_41, s_mo_getf _ _ _⟩, (List.forall_mem_cons.mpr ⟨⟨s_iconst dX12_readAtom_44 (by decide +kernel), s_mo_push _ _⟩, (List.forall_mem_cons.mpr ⟨⟨s_isub dX12_readAtom_45, s_mo_bin _ _⟩, (List.forall_mem_cons.mpr ⟨⟨s_putI (ci := 8) (k := 12) rfl (by decide) inX12 tyX12_ok nmX12 rfl rfl w_1233 dX12_readAtom_46, s_mo_putI _ _ _⟩, (List.forall_mem_cons.mpr ⟨⟨s_ldAn dX12_readAtom_49 rfl, s_mo_ldA _ _⟩, (List.forall_mem_cons.mpr ⟨⟨s_bipush dX12_readAtom_50 (by decide +kernel), s_mo_push _ _⟩, (List.forall_mem_cons.mpr ⟨⟨s_sV mk_183 mk_172 ok_172 (by decide +kernel) dX12_readAtom_52 w_1415 w_1417 wp_43 (Or.inr ⟨8, _, _, rfl, rfl⟩), s_h0 mk_183⟩, (List.forall_mem_cons.mpr ⟨s_r2 mk_183 dX12_readAtom_55, (List.forall_mem_cons.mpr ⟨⟨s_ldAn dX12_readAtom_56 rfl, s_mo_ldA _ _⟩, (List.forall_mem_cons.mpr ⟨⟨s_ldcS (tx := "not") (List.mem_of_getElem? (i := 38) rfl) dX12_readAtom_57, s_mo_push _ _⟩, (List.forall_mem_cons.mpr ⟨⟨s_sV mk_183 mk_171 ok_171 (by decide +kernel) dX12_readAtom_59 w_1391 w_1393 wp_38 (Or.inr ⟨8, _, _, rfl, rfl⟩), s_h0 mk_183⟩, (List.forall_mem_cons.mpr ⟨⟨s_ifeq dX12_readAtom_62 (by decide), s_mo_ifeq _ _⟩, (fun _ h => absurd h List.not_mem_nil)⟩)⟩)⟩)⟩)⟩)⟩)⟩)⟩)⟩)⟩)⟩)⟩)⟩)⟩)⟩)⟩)⟩)⟩)⟩)⟩)⟩)⟩)⟩)⟩)⟩)⟩)⟩)⟩)⟩)⟩)⟩)⟩)⟩)⟩)⟩)
set_option maxRecDepth 20000 in
theorem kb_183_1 : ∀ q ∈ tb_183_1, s_atx 183 yX12_readAtom cX12_readAtom q.1 q.2 := (List.forall_mem_cons.mpr ⟨⟨s_ldAn dX12_readAtom_65 rfl, s_mo_ldA _ _⟩, (List.forall_mem_cons.mpr ⟨⟨s_getf (ci := 8) (k := 12) rfl (by decide) inX12 w_1233 dX12_readAtom_66, s_mo_getf _ _ _⟩, (List.forall_mem_cons.mpr ⟨⟨s_bipush dX12_readAtom_69 (by decide +kernel), s_mo_push _ _⟩, (List.forall_mem_cons.mpr ⟨⟨s_icne dX12_readAtom_71 (by decide), s_mo_icne _ _⟩, (List.forall_mem_cons.mpr ⟨⟨s_iconst dX12_readAtom_74 (by decide +kernel), s_mo_push _ _⟩, (List.forall_mem_cons.mpr ⟨s_r2 mk_183 dX12_readAtom_75, (List.forall_mem_cons.mpr ⟨⟨s_ldAn dX12_readAtom_76 rfl, s_mo_ldA _ _⟩, (List.forall_mem_cons.mpr ⟨⟨s_dup dX12_readAtom_77, s_mo_dup _⟩, (List.forall_mem_cons.mpr ⟨⟨s_getf (ci := 8) (k := 12) rfl (by decide) inX12 w_1233 dX12_readAtom_78, s_mo_getf _ _ _⟩, (List.forall_mem_cons.mpr ⟨⟨s_iconst dX12_readAtom_81 (by decide +kernel), s_mo_push _ _⟩, (List.forall_mem_cons.mpr ⟨⟨s_iadd dX12_readAtom_82, s_mo_bin _ _⟩, (List.forall_mem_cons.mpr ⟨⟨s_putI (ci := 8) (k := 12) rfl (by decide) inX12 tyX12_ok nmX12 rfl rfl w_1233 dX12_readAtom_83, s_mo_putI _ _ _⟩, (List.forall_mem_cons.mpr ⟨⟨s_ldAn dX12_readAtom_86 rfl, s_mo_ldA _ _⟩, (List.forall_mem_cons.mpr ⟨⟨s_sV mk_183 mk_183 ok_183 (by decide +kernel) dX12_readAtom_87 w_1411 w_1413 wp_42 (Or.inr ⟨8, _, _, rfl, rfl⟩), s_h0 mk_183⟩, (List.forall_mem_cons.mpr ⟨⟨s_ifne dX12_readAtom_90 (by decide), s_mo_ifne _ _⟩, (List.forall_mem_cons.mpr ⟨⟨s_iconst dX12_readAtom_93 (by decide +kernel), s_mo_push _ _⟩, (List.forall_mem_cons.mpr ⟨s_r2 mk_183 dX12_readAtom_94, (List.forall_mem_cons.mpr ⟨⟨s_ldAn dX12_readAtom_95 rfl, s_mo_ldA _ _⟩, (List.forall_mem_cons.mpr ⟨⟨s_dup dX12_readAtom_96, s_mo_dup _⟩, (List.forall_mem_cons.mpr ⟨⟨s_getf (ci := 8) (k := 12) rfl (by decide) inX12 w_1233 dX12_readAtom_97, s_mo_getf _ _ _⟩, (List.forall_mem_cons.mpr ⟨⟨s_iconst dX12_readAtom_100 (by decide +kernel), s_mo_push _ _⟩, (List.forall_mem_cons.mpr ⟨⟨s_isub dX12_readAtom_101, s_mo_bin _ _⟩, (List.forall_mem_cons.mpr ⟨⟨s_putI (ci := 8) (k := 12) rfl (by decide) inX12 tyX12_ok nmX12 rfl rfl w_1233 dX12_readAtom_102, s_mo_putI _ _ _⟩, (List.forall_mem_cons.mpr ⟨⟨s_ldAn dX12_readAtom_105 rfl, s_mo_ldA _ _⟩, (List.forall_mem_cons.mpr ⟨⟨s_bipush dX12_readAtom_106 (by decide +kernel), s_mo_push _ _⟩, (List.forall_mem_cons.mpr ⟨⟨s_iconst dX12_readAtom_108 (by decide +kernel), s_mo_push _ _⟩, (List.forall_mem_cons.mpr ⟨⟨s_sV mk_183 mk_180 ok_180 (by decide +kernel) dX12_readAtom_109 w_1420 w_1422 wp_44 (Or.inr ⟨8, _, _, rfl, rfl⟩), s_h0 mk_183⟩, (List.forall_mem_cons.mpr ⟨⟨s_iconst dX12_readAtom_112 (by decide +kernel), s_mo_push _ _⟩, (List.forall_mem_cons.mpr ⟨s_r2 mk_183 dX12_readAtom_113, (List.forall_mem_cons.mpr ⟨⟨s_ldAn dX12_readAtom_114 rfl, s_mo_ldA _ _⟩, (List.forall_mem_cons.mpr ⟨⟨s_sV mk_183 mk_182 ok_182 (by decide +kernel) dX12_readAtom_115 w_1424 w_1426 wp_45 (Or.inr ⟨8, _, _, rfl, rfl⟩), s_h0 mk_183⟩, (List.forall_mem_cons.mpr ⟨⟨s_ifne dX12_readAtom_118 (by decide), s_mo_ifne _ _⟩, (List.forall_mem_cons.mpr ⟨⟨s_iconst dX12_readAtom_121 (by decide +kernel), s_mo_push _ _⟩, (List.forall_mem_cons.mpr ⟨s_r2 mk_183 dX12_readAtom_122, (List.forall_mem_cons.mpr ⟨⟨s_ldAn dX12_readAtom_123 rfl, s_mo_ldA _ _⟩, (List.forall_mem_cons.mpr ⟨⟨s_bipush dX12_readAtom_124 (by decide +kernel), s_mo_push _ _⟩, (List.forall_mem_cons.mpr ⟨⟨s_sV mk_183 mk_172 ok_172 (by decide +kernel) dX12_readAtom_126 w_1415 w_1417 wp_43 (Or.inr ⟨8, _, _, rfl, rfl⟩), s_h0 mk_183⟩, (fun _ h => absurd h List.not_mem_nil)⟩)⟩)⟩)⟩)⟩)⟩)⟩)⟩)⟩)⟩)⟩)⟩)⟩)⟩)⟩)⟩)⟩)⟩)⟩)⟩)⟩)⟩)⟩)⟩)⟩)⟩)⟩)⟩)⟩)⟩)⟩)⟩)⟩)⟩)⟩)⟩)⟩)
set_option maxRecDepth 20000 in
theorem kb_183_2 : ∀ q ∈ tb_183_2, s_atx 183 yX12_readAtom cX12_readAtom q.1 q.2 := (List.forall_mem_cons.mpr ⟨⟨s_stIn dX12_readAtom_129 rfl, s_mo_stI _ _⟩, (List.forall_mem_cons.mpr ⟨⟨s_ldIn dX12_readAtom_130 rfl, s_mo_ldI _ _⟩, (List.forall_mem_cons.mpr ⟨⟨s_ifne dX12_readAtom_131 (by decide), s_mo_ifne _ _⟩, (List.forall_mem_cons.mpr ⟨⟨s_ldAn dX12_readAtom_134 rfl, s_mo_ldA _ _⟩, (List.forall_mem_cons.mpr ⟨⟨s_bipush dX12_readAtom_135 (by decide +kernel), s_mo_push _ _⟩, (List.forall_mem_cons.mpr ⟨⟨s_sV mk_183 mk_172 ok_172 (by decide +kernel) dX12_readAtom_137 w_1415 w_1417 wp_43 (Or.inr ⟨8, _, _, rfl, rfl⟩), s_h0 mk_183⟩, (List.forall_mem_cons.mpr ⟨⟨s_ifeq dX12_readAtom_140 (by decide), s_mo_ifeq _ _⟩, (List.forall_mem_cons.mpr ⟨⟨s_ldAn dX12_readAtom_143 rfl, s_mo_ldA _ _⟩, (List.forall_mem_cons.mpr ⟨⟨s_sV mk_183 mk_182 ok_182 (by decide +kernel) dX12_readAtom_144 w_1424 w_1426 wp_45 (Or.inr ⟨8, _, _, rfl, rfl⟩), s_h0 mk_183⟩, (List.forall_mem_cons.mpr ⟨⟨s_ifne dX12_readAtom_147 (by decide), s_mo_ifne _ _⟩, (List.forall_mem_cons.mpr ⟨⟨s_iconst dX12_readAtom_150 (by decide +kernel), s_mo_push _ _⟩, (List.forall_mem_cons.mpr ⟨s_r2 mk_183 dX12_readAtom_151, (List.forall_mem_cons.mpr ⟨⟨s_ldAn dX12_readAtom_152 rfl, s_mo_ldA _ _⟩, (List.forall_mem_cons.mpr ⟨⟨s_ldIn dX12_readAtom_153 rfl, s_mo_ldI _ _⟩, (List.forall_mem_cons.mpr ⟨⟨s_ifeq dX12_readAtom_154 (by decide), s_mo_ifeq _ _⟩, (List.forall_mem_cons.mpr ⟨⟨s_bipush dX12_readAtom_157 (by decide +kernel), s_mo_push _ _⟩, (List.forall_mem_cons.mpr ⟨⟨s_goto dX12_readAtom_159 (by decide), s_mo_goto _⟩, (List.forall_mem_cons.mpr ⟨⟨s_bipush dX12_readAtom_162 (by decide +kernel), s_mo_push _ _⟩, (List.forall_mem_cons.mpr ⟨⟨s_iconst dX12_readAtom_164 (by decide +kernel), s_mo_push _ _⟩, (List.forall_mem_cons.mpr ⟨⟨s_sV mk_183 mk_180 ok_180 (by decide +kernel) dX12_readAtom_165 w_1420 w_1422 wp_44 (Or.inr ⟨8, _, _, rfl, rfl⟩), s_h0 mk_183⟩, (List.forall_mem_cons.mpr ⟨⟨s_iconst dX12_readAtom_168 (by decide +kernel), s_mo_push _ _⟩, (List.forall_mem_cons.mpr ⟨s_r2 mk_183 dX12_readAtom_169, (fun _ h => absurd h List.not_mem_nil)⟩)⟩)⟩)⟩)⟩)⟩)⟩)⟩)⟩)⟩)⟩)⟩)⟩)⟩)⟩)⟩)⟩)⟩)⟩)⟩)⟩)⟩)
theorem km_183 : ∀ t ∈ tm_183, s_tok 183 t := (List.forall_mem_cons.mpr ⟨s_lift mk_183 kb_183_0, (List.forall_mem_cons.mpr ⟨s_lift mk_183 kb_183_1, (List.forall_mem_cons.mpr ⟨s_lift mk_183 kb_183_2, (fun _ h => absurd h List.not_mem_nil)⟩)⟩)⟩)
theorem dX12_readAllOf_0 : decode cX12_readAllOf 0 = .ok (.aload_n 0, 1) := by decide +kernel
theorem dX12_readAllOf_1 : decode cX12_readAllOf 1 = .ok (.invokevirtual 199, 3) := by decide +kernel
theorem dX12_readAllOf_4 : decode cX12_readAllOf 4 = .ok (.ifCond .ne 5, 3) := by decide +kernel
theorem dX12_readAllOf_7 : decode cX12_readAllOf 7 = .ok (.iconst 0, 1) := by decide +kernel
theorem dX12_readAllOf_8 : decode cX12_readAllOf 8 = .ok (.ireturn, 1) := by decide +kernel
theorem dX12_readAllOf_9 : decode cX12_readAllOf 9 = .ok (.aload_n 0, 1) := by decide +kernel
theorem dX12_readAllOf_10 : decode cX12_readAllOf 10 = .ok (.ldc 205, 2) := by decide +kernel
theorem dX12_readAllOf_12 : decode cX12_readAllOf 12 = .ok (.invokevirtual 140, 3) := by decide +kernel
theorem dX12_readAllOf_15 : decode cX12_readAllOf 15 = .ok (.ifCond .eq 22, 3) := by decide +kernel
theorem dX12_readAllOf_18 : decode cX12_readAllOf 18 = .ok (.aload_n 0, 1) := by decide +kernel
theorem dX12_readAllOf_19 : decode cX12_readAllOf 19 = .ok (.invokevirtual 199, 3) := by decide +kernel
theorem dX12_readAllOf_22 : decode cX12_readAllOf 22 = .ok (.ifCond .ne 5, 3) := by decide +kernel
theorem dX12_readAllOf_25 : decode cX12_readAllOf 25 = .ok (.iconst 0, 1) := by decide +kernel
theorem dX12_readAllOf_26 : decode cX12_readAllOf 26 = .ok (.ireturn, 1) := by decide +kernel
theorem dX12_readAllOf_27 : decode cX12_readAllOf 27 = .ok (.aload_n 0, 1) := by decide +kernel
theorem dX12_readAllOf_28 : decode cX12_readAllOf 28 = .ok (.bipush 12, 2) := by decide +kernel
theorem dX12_readAllOf_30 : decode cX12_readAllOf 30 = .ok (.iconst 0, 1) := by decide +kernel
theorem dX12_readAllOf_31 : decode cX12_readAllOf 31 = .ok (.invokevirtual 172, 3) := by decide +kernel
theorem dX12_readAllOf_34 : decode cX12_readAllOf 34 = .ok (.goto (-25), 3) := by decide +kernel
theorem dX12_readAllOf_37 : decode cX12_readAllOf 37 = .ok (.iconst 1, 1) := by decide +kernel
theorem dX12_readAllOf_38 : decode cX12_readAllOf 38 = .ok (.ireturn, 1) := by decide +kernel
set_option maxRecDepth 20000 in
theorem kb_184_0 : ∀ q ∈ tb_184_0, s_atx 184 yX12_readAllOf cX12_readAllOf q.1 q.2 := (List.forall_mem_cons.mpr ⟨⟨s_ldAn dX12_readAllOf_0 rfl, s_mo_ldA _ _⟩, (List.forall_mem_cons.mpr ⟨⟨s_sV mk_184 mk_183 ok_183 (by decide +kernel) dX12_readAllOf_1 w_1411 w_1413 wp_42 (Or.inr ⟨8, _, _, rfl, rfl⟩), s_h0 mk_184⟩, (List.forall_mem_cons.mpr ⟨⟨s_ifne dX12_readAllOf_4 (by decide), s_mo_ifne _ _⟩, (List.forall_mem_cons.mpr ⟨⟨s_iconst dX12_readAllOf_7 (by decide +kernel), s_mo_push _ _⟩, (List.forall_mem_cons.mpr ⟨s_r2 mk_184 dX12_readAllOf_8, (List.forall_mem_cons.mpr ⟨⟨s_ldAn dX12_readAllOf_9 rfl, s_mo_ldA _ _⟩, (List.forall_mem_cons.mpr ⟨⟨s_ldcS (tx := "and") (List.mem_of_getElem? (i := 43) rfl) dX12_readAllOf_10, s_mo_push _ _⟩, (List.forall_mem_cons.mpr ⟨⟨s_sV mk_184 mk_171 ok_171 (by decide +kernel) dX12_readAllOf_12 w_1391 w_1393 wp_38 (Or.inr ⟨8, _, _, rfl, rfl⟩), s_h0 mk_184⟩, (List.forall_mem_cons.mpr ⟨⟨s_ifeq dX12_readAllOf_15 (by decide), s_mo_ifeq _ _⟩, (List.forall_mem_cons.mpr ⟨⟨s_ldAn dX12_readAllOf_18 rfl, s_mo_ldA _ _⟩, (List.forall_mem_cons.mpr ⟨⟨s_sV mk_184 mk_183 ok_183 (by decide +kernel) dX12_readAllOf_19 w_1411 w_1413 wp_42 (Or.inr ⟨8, _, _, rfl, rfl⟩), s_h0 mk_184⟩, (List.forall_mem_cons.mpr ⟨⟨s_ifne dX12_readAllOf_22 (by decide), s_mo_ifne _ _⟩, (List.forall_mem_cons.mpr ⟨⟨s_iconst dX12_readAllOf_25 (by decide +kernel), s_mo_push _ _⟩, (List.forall_mem_cons.mpr ⟨s_r2 mk_184 dX12_readAllOf_26, (List.forall_mem_cons.mpr ⟨⟨s_ldAn dX12_readAllOf_27 rfl, s_mo_ldA _ _⟩, (List.forall_mem_cons.mpr ⟨⟨s_bipush dX12_readAllOf_28 (by decide +kernel), s_mo_push _ _⟩, (List.forall_mem_cons.mpr ⟨⟨s_iconst dX12_readAllOf_30 (by decide +kernel), s_mo_push _ _⟩, (List.forall_mem_cons.mpr ⟨⟨s_sV mk_184 mk_180 ok_180 (by decide +kernel) dX12_readAllOf_31 w_1420 w_1422 wp_44 (Or.inr ⟨8, _, _, rfl, rfl⟩), s_h0 mk_184⟩, (List.forall_mem_cons.mpr ⟨⟨s_goto dX12_readAllOf_34 (by decide), s_mo_goto _⟩, (List.forall_mem_cons.mpr ⟨⟨s_iconst dX12_readAllOf_37 (by decide +kernel), s_mo_push _ _⟩, (List.forall_mem_cons.mpr ⟨s_r2 mk_184 dX12_readAllOf_38, (fun _ h => absurd h List.not_mem_nil)⟩)⟩)⟩)⟩)⟩)⟩)⟩)⟩)⟩)⟩)⟩)⟩)⟩)⟩)⟩)⟩)⟩)⟩)⟩)⟩)⟩)
theorem km_184 : ∀ t ∈ tm_184, s_tok 184 t := (List.forall_mem_cons.mpr ⟨s_lift mk_184 kb_184_0, (fun _ h => absurd h List.not_mem_nil)⟩)
theorem dX12_readCond_0 : decode cX12_readCond 0 = .ok (.aload_n 0, 1) := by decide +kernel
theorem dX12_readCond_1 : decode cX12_readCond 1 = .ok (.invokevirtual 207, 3) := by decide +kernel
theorem dX12_readCond_4 : decode cX12_readCond 4 = .ok (.ifCond .ne 5, 3) := by decide +kernel
theorem dX12_readCond_7 : decode cX12_readCond 7 = .ok (.iconst 0, 1) := by decide +kernel
theorem dX12_readCond_8 : decode cX12_readCond 8 = .ok (.ireturn, 1) := by decide +kernel
theorem dX12_readCond_9 : decode cX12_readCond 9 = .ok (.aload_n 0, 1) := by decide +kernel
theorem dX12_readCond_10 : decode cX12_readCond 10 = .ok (.ldc 210, 2) := by decide +kernel
theorem dX12_readCond_12 : decode cX12_readCond 12 = .ok (.invokevirtual 140, 3) := by decide +kernel
theorem dX12_readCond_15 : decode cX12_readCond 15 = .ok (.ifCond .eq 22, 3) := by decide +kernel
theorem dX12_readCond_18 : decode cX12_readCond 18 = .ok (.aload_n 0, 1) := by decide +kernel
theorem dX12_readCond_19 : decode cX12_readCond 19 = .ok (.invokevirtual 207, 3) := by decide +kernel
theorem dX12_readCond_22 : decode cX12_readCond 22 = .ok (.ifCond .ne 5, 3) := by decide +kernel
theorem dX12_readCond_25 : decode cX12_readCond 25 = .ok (.iconst 0, 1) := by decide +kernel
theorem dX12_readCond_26 : decode cX12_readCond 26 = .ok (.ireturn, 1) := by decide +kernel
theorem dX12_readCond_27 : decode cX12_readCond 27 = .ok (.aload_n 0, 1) := by decide +kernel
theorem dX12_readCond_28 : decode cX12_readCond 28 = .ok (.bipush 13, 2) := by decide +kernel
theorem dX12_readCond_30 : decode cX12_readCond 30 = .ok (.iconst 0, 1) := by decide +kernel
theorem dX12_readCond_31 : decode cX12_readCond 31 = .ok (.invokevirtual 172, 3) := by decide +kernel
theorem dX12_readCond_34 : decode cX12_readCond 34 = .ok (.goto (-25), 3) := by decide +kernel
theorem dX12_readCond_37 : decode cX12_readCond 37 = .ok (.iconst 1, 1) := by decide +kernel
theorem dX12_readCond_38 : decode cX12_readCond 38 = .ok (.ireturn, 1) := by decide +kernel
set_option maxRecDepth 20000 in
theorem kb_185_0 : ∀ q ∈ tb_185_0, s_atx 185 yX12_readCond cX12_readCond q.1 q.2 := (List.forall_mem_cons.mpr ⟨⟨s_ldAn dX12_readCond_0 rfl, s_mo_ldA _ _⟩, (List.forall_mem_cons.mpr ⟨⟨s_sV mk_185 mk_184 ok_184 (by decide +kernel) dX12_readCond_1 w_1407 w_1409 wp_41 (Or.inr ⟨8, _, _, rfl, rfl⟩), s_h0 mk_185⟩, (List.forall_mem_cons.mpr ⟨⟨s_ifne dX12_readCond_4 (by decide), s_mo_ifne _ _⟩, (List.forall_mem_cons.mpr ⟨⟨s_iconst dX12_readCond_7 (by decide +kernel), s_mo_push _ _⟩, (List.forall_mem_cons.mpr ⟨s_r2 mk_185 dX12_readCond_8, (List.forall_mem_cons.mpr ⟨⟨s_ldAn dX12_readCond_9 rfl, s_mo_ldA _ _⟩, (List.forall_mem_cons.mpr ⟨⟨s_ldcS (tx := "or") (List.mem_of_getElem? (i := 44) rfl) dX12_readCond_10, s_mo_push _ _⟩, (List.forall_mem_cons.mpr ⟨⟨s_sV mk_185 mk_171 ok_171 (by decide +kernel) dX12_readCond_12 w_1391 w_1393 wp_38 (Or.inr ⟨8, _, _, rfl, rfl⟩), s_h0 mk_185⟩, (List.forall_mem_cons.mpr ⟨⟨s_ifeq dX12_readCond_15 (by decide), s_mo_ifeq _ _⟩, (List.forall_mem_cons.mpr ⟨⟨s_ldAn dX12_readCond_18 rfl, s_mo_ldA _ _⟩, (List.forall_mem_cons.mpr ⟨⟨s_sV mk_185 mk_184 ok_184 (by decide +kernel) dX12_readCond_19 w_1407 w_1409 wp_41 (Or.inr ⟨8, _, _, rfl, rfl⟩), s_h0 mk_185⟩, (List.forall_mem_cons.mpr ⟨⟨s_ifne dX12_readCond_22 (by decide), s_mo_ifne _ _⟩, (List.forall_mem_cons.mpr ⟨⟨s_iconst dX12_readCond_25 (by decide +kernel), s_mo_push _ _⟩, (List.forall_mem_cons.mpr ⟨s_r2 mk_185 dX12_readCond_26, (List.forall_mem_cons.mpr ⟨⟨s_ldAn dX12_readCond_27 rfl, s_mo_ldA _ _⟩, (List.forall_mem_cons.mpr ⟨⟨s_bipush dX12_readCond_28 (by decide +kernel), s_mo_push _ _⟩, (List.forall_mem_cons.mpr ⟨⟨s_iconst dX12_readCond_30 (by decide +kernel), s_mo_push _ _⟩, (List.forall_mem_cons.mpr ⟨⟨s_sV mk_185 mk_180 ok_180 (by decide +kernel) dX12_readCond_31 w_1420 w_1422 wp_44 (Or.inr ⟨8, _, _, rfl, rfl⟩), s_h0 mk_185⟩, (List.forall_mem_cons.mpr ⟨⟨s_goto dX12_readCond_34 (by decide), s_mo_goto _⟩, (List.forall_mem_cons.mpr ⟨⟨s_iconst dX12_readCond_37 (by decide +kernel), s_mo_push _ _⟩, (List.forall_mem_cons.mpr ⟨s_r2 mk_185 dX12_readCond_38, (fun _ h => absurd h List.not_mem_nil)⟩)⟩)⟩)⟩)⟩)⟩)⟩)⟩)⟩)⟩)⟩)⟩)⟩)⟩)⟩)⟩)⟩)⟩)⟩)⟩)⟩)
theorem km_185 : ∀ t ∈ tm_185, s_tok 185 t := (List.forall_mem_cons.mpr ⟨s_lift mk_185 kb_185_0, (fun _ h => absurd h List.not_mem_nil)⟩)
theorem dX12_readShameLine_0 : decode cX12_readShameLine 0 = .ok (.sipush 1265, 3) := by decide +kernel
theorem dX12_readShameLine_3 : decode cX12_readShameLine 3 = .ok (.iconst 3, 1) := by decide +kernel
theorem dX12_readShameLine_4 : decode cX12_readShameLine 4 = .ok (.iload_n 1, 1) := by decide +kernel
theorem dX12_readShameLine_5 : decode cX12_readShameLine 5 = .ok (.imul, 1) := by decide +kernel
theorem dX12_readShameLine_6 : decode cX12_readShameLine 6 = .ok (.iadd, 1) := by decide +kernel
theorem dX12_readShameLine_7 : decode cX12_readShameLine 7 = .ok (.istore_n 2, 1) := by decide +kernel
theorem dX12_readShameLine_8 : decode cX12_readShameLine 8 = .ok (.aload_n 0, 1) := by decide +kernel
theorem dX12_readShameLine_9 : decode cX12_readShameLine 9 = .ok (.ldc 212, 2) := by decide +kernel
theorem dX12_readShameLine_11 : decode cX12_readShameLine 11 = .ok (.invokevirtual 126, 3) := by decide +kernel
theorem dX12_readShameLine_14 : decode cX12_readShameLine 14 = .ok (.istore_n 3, 1) := by decide +kernel
theorem dX12_readShameLine_15 : decode cX12_readShameLine 15 = .ok (.aload_n 0, 1) := by decide +kernel
theorem dX12_readShameLine_16 : decode cX12_readShameLine 16 = .ok (.ldc 214, 2) := by decide +kernel
theorem dX12_readShameLine_18 : decode cX12_readShameLine 18 = .ok (.invokevirtual 126, 3) := by decide +kernel
theorem dX12_readShameLine_21 : decode cX12_readShameLine 21 = .ok (.istore 4, 2) := by decide +kernel
theorem dX12_readShameLine_23 : decode cX12_readShameLine 23 = .ok (.iload_n 3, 1) := by decide +kernel
theorem dX12_readShameLine_24 : decode cX12_readShameLine 24 = .ok (.ifCond .ne 19, 3) := by decide +kernel
theorem dX12_readShameLine_27 : decode cX12_readShameLine 27 = .ok (.iload 4, 2) := by decide +kernel
theorem dX12_readShameLine_29 : decode cX12_readShameLine 29 = .ok (.ifCond .ne 14, 3) := by decide +kernel
theorem dX12_readShameLine_32 : decode cX12_readShameLine 32 = .ok (.aload_n 0, 1) := by decide +kernel
theorem dX12_readShameLine_33 : decode cX12_readShameLine 33 = .ok (.ldc 216, 2) := by decide +kernel
theorem dX12_readShameLine_35 : decode cX12_readShameLine 35 = .ok (.invokevirtual 126, 3) := by decide +kernel
theorem dX12_readShameLine_38 : decode cX12_readShameLine 38 = .ok (.ifCond .ne 5, 3) := by decide +kernel
theorem dX12_readShameLine_41 : decode cX12_readShameLine 41 = .ok (.iconst 0, 1) := by decide +kernel
theorem dX12_readShameLine_42 : decode cX12_readShameLine 42 = .ok (.ireturn, 1) := by decide +kernel
theorem dX12_readShameLine_43 : decode cX12_readShameLine 43 = .ok (.aload_n 0, 1) := by decide +kernel
theorem dX12_readShameLine_44 : decode cX12_readShameLine 44 = .ok (.getfield 13, 3) := by decide +kernel
theorem dX12_readShameLine_47 : decode cX12_readShameLine 47 = .ok (.iload_n 2, 1) := by decide +kernel
theorem dX12_readShameLine_48 : decode cX12_readShameLine 48 = .ok (.iload_n 3, 1) := by decide +kernel
theorem dX12_readShameLine_49 : decode cX12_readShameLine 49 = .ok (.ifCond .eq 14, 3) := by decide +kernel
theorem dX12_readShameLine_52 : decode cX12_readShameLine 52 = .ok (.aload_n 0, 1) := by decide +kernel
theorem dX12_readShameLine_53 : decode cX12_readShameLine 53 = .ok (.iconst 0, 1) := by decide +kernel
theorem dX12_readShameLine_54 : decode cX12_readShameLine 54 = .ok (.sipush 999, 3) := by decide +kernel
theorem dX12_readShameLine_57 : decode cX12_readShameLine 57 = .ok (.invokevirtual 130, 3) := by decide +kernel
theorem dX12_readShameLine_60 : decode cX12_readShameLine 60 = .ok (.goto 14, 3) := by decide +kernel
theorem dX12_readShameLine_63 : decode cX12_readShameLine 63 = .ok (.iload 4, 2) := by decide +kernel
theorem dX12_readShameLine_65 : decode cX12_readShameLine 65 = .ok (.ifCond .eq 8, 3) := by decide +kernel
theorem dX12_readShameLine_68 : decode cX12_readShameLine 68 = .ok (.bipush (-2), 2) := by decide +kernel
theorem dX12_readShameLine_70 : decode cX12_readShameLine 70 = .ok (.goto 4, 3) := by decide +kernel
theorem dX12_readShameLine_73 : decode cX12_readShameLine 73 = .ok (.iconst (-1), 1) := by decide +kernel
theorem dX12_readShameLine_74 : decode cX12_readShameLine 74 = .ok (.iastore, 1) := by decide +kernel
theorem dX12_readShameLine_75 : decode cX12_readShameLine 75 = .ok (.iload_n 3, 1) := by decide +kernel
theorem dX12_readShameLine_76 : decode cX12_readShameLine 76 = .ok (.ifCond .eq 14, 3) := by decide +kernel
theorem dX12_readShameLine_79 : decode cX12_readShameLine 79 = .ok (.aload_n 0, 1) := by decide +kernel
theorem dX12_readShameLine_80 : decode cX12_readShameLine 80 = .ok (.getfield 13, 3) := by decide +kernel
theorem dX12_readShameLine_83 : decode cX12_readShameLine 83 = .ok (.iload_n 2, 1) := by decide +kernel
theorem dX12_readShameLine_84 : decode cX12_readShameLine 84 = .ok (.iaload, 1) := by decide +kernel
theorem dX12_readShameLine_85 : decode cX12_readShameLine 85 = .ok (.ifCond .ge 5, 3) := by decide +kernel
theorem dX12_readShameLine_88 : decode cX12_readShameLine 88 = .ok (.iconst 0, 1) := by decide +kernel
theorem dX12_readShameLine_89 : decode cX12_readShameLine 89 = .ok (.ireturn, 1) := by decide +kernel
theorem dX12_readShameLine_90 : decode cX12_readShameLine 90 = .ok (.aload_n 0, 1) := by decide +kernel
theorem dX12_readShameLine_91 : decode cX12_readShameLine 91 = .ok (.getfield 13, 3) := by decide +kernel
theorem dX12_readShameLine_94 : decode cX12_readShameLine 94 = .ok (.iload_n 2, 1) := by decide +kernel
theorem dX12_readShameLine_95 : decode cX12_readShameLine 95 = .ok (.iconst 1, 1) := by decide +kernel
theorem dX12_readShameLine_96 : decode cX12_readShameLine 96 = .ok (.iadd, 1) := by decide +kernel
theorem dX12_readShameLine_97 : decode cX12_readShameLine 97 = .ok (.aload_n 0, 1) := by decide +kernel
theorem dX12_readShameLine_98 : decode cX12_readShameLine 98 = .ok (.getfield 169, 3) := by decide +kernel
theorem dX12_readShameLine_101 : decode cX12_readShameLine 101 = .ok (.iastore, 1) := by decide +kernel
theorem dX12_readShameLine_102 : decode cX12_readShameLine 102 = .ok (.aload_n 0, 1) := by decide +kernel
theorem dX12_readShameLine_103 : decode cX12_readShameLine 103 = .ok (.iconst 0, 1) := by decide +kernel
theorem dX12_readShameLine_104 : decode cX12_readShameLine 104 = .ok (.putfield 191, 3) := by decide +kernel
theorem dX12_readShameLine_107 : decode cX12_readShameLine 107 = .ok (.aload_n 0, 1) := by decide +kernel
theorem dX12_readShameLine_108 : decode cX12_readShameLine 108 = .ok (.ldc 218, 2) := by decide +kernel
theorem dX12_readShameLine_110 : decode cX12_readShameLine 110 = .ok (.invokevirtual 140, 3) := by decide +kernel
theorem dX12_readShameLine_113 : decode cX12_readShameLine 113 = .ok (.ifCond .eq 12, 3) := by decide +kernel
theorem dX12_readShameLine_116 : decode cX12_readShameLine 116 = .ok (.aload_n 0, 1) := by decide +kernel
theorem dX12_readShameLine_117 : decode cX12_readShameLine 117 = .ok (.invokevirtual 194, 3) := by decide +kernel
theorem dX12_readShameLine_120 : decode cX12_readShameLine 120 = .ok (.ifCond .ne 5, 3) := by decide +kernel
theorem dX12_readShameLine_123 : decode cX12_readShameLine 123 = .ok (.iconst 0, 1) := by decide +kernel
theorem dX12_readShameLine_124 : decode cX12_readShameLine 124 = .ok (.ireturn, 1) := by decide +kernel
theorem dX12_readShameLine_125 : decode cX12_readShameLine 125 = .ok (.aload_n 0, 1) := by decide +kernel
theorem dX12_readShameLine_126 : decode cX12_readShameLine 126 = .ok (.getfield 13, 3) := by decide +kernel
theorem dX12_readShameLine_129 : decode cX12_readShameLine 129 = .ok (.iload_n 2, 1) := by decide +kernel
theorem dX12_readShameLine_130 : decode cX12_readShameLine 130 = .ok (.iconst 2, 1) := by decide +kernel
theorem dX12_readShameLine_131 : decode cX12_readShameLine 131 = .ok (.iadd, 1) := by decide +kernel
theorem dX12_readShameLine_132 : decode cX12_readShameLine 132 = .ok (.aload_n 0, 1) := by decide +kernel
theorem dX12_readShameLine_133 : decode cX12_readShameLine 133 = .ok (.getfield 169, 3) := by decide +kernel
theorem dX12_readShameLine_136 : decode cX12_readShameLine 136 = .ok (.iastore, 1) := by decide +kernel
theorem dX12_readShameLine_137 : decode cX12_readShameLine 137 = .ok (.iconst 1, 1) := by decide +kernel
theorem dX12_readShameLine_138 : decode cX12_readShameLine 138 = .ok (.ireturn, 1) := by decide +kernel
set_option maxRecDepth 20000 in
theorem kb_186_0 : ∀ q ∈ tb_186_0, s_atx 186 yX12_readShameLine cX12_readShameLine q.1 q.2 := (List.forall_mem_cons.mpr ⟨⟨s_sipush dX12_readShameLine_0 (by decide +kernel), s_mo_push _ _⟩, (List.forall_mem_cons.mpr ⟨⟨s_iconst dX12_readShameLine_3 (by decide +kernel), s_mo_push _ _⟩, (List.forall_mem_cons.mpr ⟨⟨s_ldIn dX12_readShameLine_4 rfl, s_mo_ldI _ _⟩, (List.forall_mem_cons.mpr ⟨⟨s_imul dX12_readShameLine_5, s_mo_bin _ _⟩, (List.forall_mem_cons.mpr ⟨⟨s_iadd dX12_readShameLine_6, s_mo_bin _ _⟩, (List.forall_mem_cons.mpr ⟨⟨s_stIn dX12_readShameLine_7 rfl, s_mo_stI _ _⟩, (List.forall_mem_cons.mpr ⟨⟨s_ldAn dX12_readShameLine_8 rfl, s_mo_ldA _ _⟩, (List.forall_mem_cons.mpr ⟨⟨s_ldcS (tx := "fine") (List.mem_of_getElem? (i := 34) rfl) dX12_readShameLine_9, s_mo_push _ _⟩, (List.forall_mem_cons.mpr ⟨⟨s_sV mk_186 mk_170 ok_170 (by decide +kernel) dX12_readShameLine_11 w_1352 w_1354 wp_31 (Or.inr ⟨8, _, _, rfl, rfl⟩), s_h0 mk_186⟩, (List.forall_mem_cons.mpr ⟨⟨s_stIn dX12_readShameLine_14 rfl, s_mo_stI _ _⟩, (List.forall_mem_cons.mpr ⟨⟨s_ldAn dX12_readShameLine_15 rfl, s_mo_ldA _ _⟩, (List.forall_mem_cons.mpr ⟨⟨s_ldcS (tx := "show") (List.mem_of_getElem? (i := 35) rfl) dX12_readShameLine_16, s_mo_push _ _⟩, (List.forall_mem_cons.mpr ⟨⟨s_sV mk_186 mk_170 ok_170 (by decide +kernel) dX12_readShameLine_18 w_1352 w_1354 wp_31 (Or.inr ⟨8, _, _, rfl, rfl⟩), s_h0 mk_186⟩, (List.forall_mem_cons.mpr ⟨⟨s_stI dX12_readShameLine_21, s_mo_stI _ _⟩, (List.forall_mem_cons.mpr ⟨⟨s_ldIn dX12_readShameLine_23 rfl, s_mo_ldI _ _⟩, (List.forall_mem_cons.mpr ⟨⟨s_ifne dX12_readShameLine_24 (by decide), s_mo_ifne _ _⟩, (List.forall_mem_cons.mpr ⟨⟨s_ldI dX12_readShameLine_27, s_mo_ldI _ _⟩, (List.forall_mem_cons.mpr ⟨⟨s_ifne dX12_readShameLine_29 (by decide), s_mo_ifne _ _⟩, (List.forall_mem_cons.mpr ⟨⟨s_ldAn dX12_readShameLine_32 rfl, s_mo_ldA _ _⟩, (List.forall_mem_cons.mpr ⟨⟨s_ldcS (tx := "hide") (List.mem_of_getElem? (i := 36) rfl) dX12_readShameLine_33, s_mo_push _ _⟩, (List.forall_mem_cons.mpr ⟨⟨s_sV mk_186 mk_170 ok_170 (by decide +kernel) dX12_readShameLine_35 w_1352 w_1354 wp_31 (Or.inr ⟨8, _, _, rfl, rfl⟩), s_h0 mk_186⟩, (List.forall_mem_cons.mpr ⟨⟨s_ifne dX12_readShameLine_38 (by decide), s_mo_ifne _ _⟩, (List.forall_mem_cons.mpr ⟨⟨s_iconst dX12_readShameLine_41 (by decide +kernel), s_mo_push _ _⟩, (List.forall_mem_cons.mpr ⟨s_r2 mk_186 dX12_readShameLine_42, (List.forall_mem_cons.mpr ⟨⟨s_ldAn dX12_readShameLine_43 rfl, s_mo_ldA _ _⟩, (List.forall_mem_cons.mpr ⟨⟨s_getf (ci := 8) (k := 1) rfl (by decide) inX12 w_1222 dX12_readShameLine_44, s_mo_getf _ _ _⟩, (List.forall_mem_cons.mpr ⟨⟨s_ldIn dX12_readShameLine_47 rfl, s_mo_ldI _ _⟩, (List.forall_mem_cons.mpr ⟨⟨s_ldIn dX12_readShameLine_48 rfl, s_mo_ldI _ _⟩, (List.forall_mem_cons.mpr ⟨⟨s_ifeq dX12_readShameLine_49 (by decide), s_mo_ifeq _ _⟩, (List.forall_mem_cons.mpr ⟨⟨s_ldAn dX12_readShameLine_52 rfl, s_mo_ldA _ _⟩, (List.forall_mem_cons.mpr ⟨⟨s_iconst dX12_readShameLine_53 (by decide +kernel), s_mo_push _ _⟩, (List.forall_mem_cons.mpr ⟨⟨s_sipush dX12_readShameLine_54 (by decide +kernel), s_mo_push _ _⟩, (List.forall_mem_cons.mpr ⟨⟨s_sV mk_186 mk_173 ok_173 (by decide +kernel) dX12_readShameLine_57 w_1362 w_1364 wp_33 (Or.inr ⟨8, _, _, rfl, rfl⟩), s_h0 mk_186⟩, (List.forall_mem_cons.mpr ⟨⟨s_goto dX12_readShameLine_60 (by decide), s_mo_goto _⟩, (List.forall_mem_cons.mpr ⟨⟨s_ldI dX12_readShameLine_63, s_mo_ldI _ _⟩, (fun _ h => absurd h List.not_mem_nil)⟩)⟩)⟩)⟩)⟩)⟩)⟩)⟩)⟩)⟩)⟩)⟩)⟩)⟩)⟩)⟩)⟩)⟩)⟩)⟩)⟩)⟩)⟩)⟩)⟩)⟩)⟩)⟩)⟩)⟩)⟩)⟩)⟩)⟩)⟩)
set_option maxRecDepth 20000 in
theorem kb_186_1 : ∀ q ∈ tb_186_1, s_atx 186 yX12_readShameLine cX12_readShameLine q.1 q.2 := (List.forall_mem_cons.mpr ⟨⟨s_ifeq dX12_readShameLine_65 (by decide), s_mo_ifeq _ _⟩, (List.forall_mem_cons.mpr ⟨⟨s_bipush dX12_readShameLine_68 (by decide +kernel), s_mo_push _ _⟩, (List.forall_mem_cons.mpr ⟨⟨s_goto dX12_readShameLine_70 (by decide), s_mo_goto _⟩, (List.forall_mem_cons.mpr ⟨⟨s_iconst dX12_readShameLine_73 (by decide +kernel), s_mo_push _ _⟩, (List.forall_mem_cons.mpr ⟨⟨s_iast dX12_readShameLine_74, s_mo_iast _⟩, (List.forall_mem_cons.mpr ⟨⟨s_ldIn dX12_readShameLine_75 rfl, s_mo_ldI _ _⟩, (List.forall_mem_cons.mpr ⟨⟨s_ifeq dX12_readShameLine_76 (by decide), s_mo_ifeq _ _⟩, (List.forall_mem_cons.mpr ⟨⟨s_ldAn dX12_readShameLine_79 rfl, s_mo_ldA _ _⟩, (List.forall_mem_cons.mpr ⟨⟨s_getf (ci := 8) (k := 1) rfl (by decide) inX12 w_1222 dX12_readShameLine_80, s_mo_getf _ _ _⟩, (List.forall_mem_cons.mpr ⟨⟨s_ldIn dX12_readShameLine_83 rfl, s_mo_ldI _ _⟩, (List.forall_mem_cons.mpr ⟨⟨s_iald dX12_readShameLine_84, s_mo_iald _⟩, (List.forall_mem_cons.mpr ⟨⟨s_ifge dX12_readShameLine_85 (by decide), s_mo_ifge _ _⟩, (List.forall_mem_cons.mpr ⟨⟨s_iconst dX12_readShameLine_88 (by decide +kernel), s_mo_push _ _⟩, (List.forall_mem_cons.mpr ⟨s_r2 mk_186 dX12_readShameLine_89, (List.forall_mem_cons.mpr ⟨⟨s_ldAn dX12_readShameLine_90 rfl, s_mo_ldA _ _⟩, (List.forall_mem_cons.mpr ⟨⟨s_getf (ci := 8) (k := 1) rfl (by decide) inX12 w_1222 dX12_readShameLine_91, s_mo_getf _ _ _⟩, (List.forall_mem_cons.mpr ⟨⟨s_ldIn dX12_readShameLine_94 rfl, s_mo_ldI _ _⟩, (List.forall_mem_cons.mpr ⟨⟨s_iconst dX12_readShameLine_95 (by decide +kernel), s_mo_push _ _⟩, (List.forall_mem_cons.mpr ⟨⟨s_iadd dX12_readShameLine_96, s_mo_bin _ _⟩, (List.forall_mem_cons.mpr ⟨⟨s_ldAn dX12_readShameLine_97 rfl, s_mo_ldA _ _⟩, (List.forall_mem_cons.mpr ⟨⟨s_getf (ci := 8) (k := 15) rfl (by decide) inX12 w_1236 dX12_readShameLine_98, s_mo_getf _ _ _⟩, (List.forall_mem_cons.mpr ⟨⟨s_iast dX12_readShameLine_101, s_mo_iast _⟩, (List.forall_mem_cons.mpr ⟨⟨s_ldAn dX12_readShameLine_102 rfl, s_mo_ldA _ _⟩, (List.forall_mem_cons.mpr ⟨⟨s_iconst dX12_readShameLine_103 (by decide +kernel), s_mo_push _ _⟩, (List.forall_mem_cons.mpr ⟨⟨s_putI (ci := 8) (k := 12) rfl (by decide) inX12 tyX12_ok nmX12 rfl rfl w_1233 dX12_readShameLine_104, s_mo_putI _ _ _⟩, (List.forall_mem_cons.mpr ⟨⟨s_ldAn dX12_readShameLine_107 rfl, s_mo_ldA _ _⟩, (List.forall_mem_cons.mpr ⟨⟨s_ldcS (tx := "if") (List.mem_of_getElem? (i := 37) rfl) dX12_readShameLine_108, s_mo_push _ _⟩, (List.forall_mem_cons.mpr ⟨⟨s_sV mk_186 mk_171 ok_171 (by decide +kernel) dX12_readShameLine_110 w_1391 w_1393 wp_38 (Or.inr ⟨8, _, _, rfl, rfl⟩), s_h0 mk_186⟩, (List.forall_mem_cons.mpr ⟨⟨s_ifeq dX12_readShameLine_113 (by decide), s_mo_ifeq _ _⟩, (List.forall_mem_cons.mpr ⟨⟨s_ldAn dX12_readShameLine_116 rfl, s_mo_ldA _ _⟩, (List.forall_mem_cons.mpr ⟨⟨s_sV mk_186 mk_185 ok_185 (by decide +kernel) dX12_readShameLine_117 w_1403 w_1405 wp_40 (Or.inr ⟨8, _, _, rfl, rfl⟩), s_h0 mk_186⟩, (List.forall_mem_cons.mpr ⟨⟨s_ifne dX12_readShameLine_120 (by decide), s_mo_ifne _ _⟩, (List.forall_mem_cons.mpr ⟨⟨s_iconst dX12_readShameLine_123 (by decide +kernel), s_mo_push _ _⟩, (List.forall_mem_cons.mpr ⟨s_r2 mk_186 dX12_readShameLine_124, (List.forall_mem_cons.mpr ⟨⟨s_ldAn dX12_readShameLine_125 rfl, s_mo_ldA _ _⟩, (List.forall_mem_cons.mpr ⟨⟨s_getf (ci := 8) (k := 1) rfl (by decide) inX12 w_1222 dX12_readShameLine_126, s_mo_getf _ _ _⟩, (fun _ h => absurd h List.not_mem_nil)⟩)⟩)⟩)⟩)⟩)⟩)⟩)⟩)⟩)⟩)⟩)⟩)⟩)⟩)⟩)⟩)⟩)⟩)⟩)⟩)⟩)⟩)⟩)⟩)⟩)⟩)⟩)⟩)⟩)⟩)⟩)⟩)⟩)⟩)⟩)⟩)
set_option maxRecDepth 20000 in
theorem kb_186_2 : ∀ q ∈ tb_186_2, s_atx 186 yX12_readShameLine cX12_readShameLine q.1 q.2 := (List.forall_mem_cons.mpr ⟨⟨s_ldIn dX12_readShameLine_129 rfl, s_mo_ldI _ _⟩, (List.forall_mem_cons.mpr ⟨⟨s_iconst dX12_readShameLine_130 (by decide +kernel), s_mo_push _ _⟩, (List.forall_mem_cons.mpr ⟨⟨s_iadd dX12_readShameLine_131, s_mo_bin _ _⟩, (List.forall_mem_cons.mpr ⟨⟨s_ldAn dX12_readShameLine_132 rfl, s_mo_ldA _ _⟩, (List.forall_mem_cons.mpr ⟨⟨s_getf (ci := 8) (k := 15) rfl (by decide) inX12 w_1236 dX12_readShameLine_133, s_mo_getf _ _ _⟩, (List.forall_mem_cons.mpr ⟨⟨s_iast dX12_readShameLine_136, s_mo_iast _⟩, (List.forall_mem_cons.mpr ⟨⟨s_iconst dX12_readShameLine_137 (by decide +kernel), s_mo_push _ _⟩, (List.forall_mem_cons.mpr ⟨s_r2 mk_186 dX12_readShameLine_138, (fun _ h => absurd h List.not_mem_nil)⟩)⟩)⟩)⟩)⟩)⟩)⟩)⟩)
theorem km_186 : ∀ t ∈ tm_186, s_tok 186 t := (List.forall_mem_cons.mpr ⟨s_lift mk_186 kb_186_0, (List.forall_mem_cons.mpr ⟨s_lift mk_186 kb_186_1, (List.forall_mem_cons.mpr ⟨s_lift mk_186 kb_186_2, (fun _ h => absurd h List.not_mem_nil)⟩)⟩)⟩)
theorem dX12_readLine_0 : decode cX12_readLine 0 = .ok (.aload_n 0, 1) := by decide +kernel
theorem dX12_readLine_1 : decode cX12_readLine 1 = .ok (.invokevirtual 123, 3) := by decide +kernel
theorem dX12_readLine_4 : decode cX12_readLine 4 = .ok (.iload_n 2, 1) := by decide +kernel
theorem dX12_readLine_5 : decode cX12_readLine 5 = .ok (.iload_n 1, 1) := by decide +kernel
theorem dX12_readLine_6 : decode cX12_readLine 6 = .ok (.ifCond .eq 8, 3) := by decide +kernel
theorem dX12_readLine_9 : decode cX12_readLine 9 = .ok (.bipush 14, 2) := by decide +kernel
theorem dX12_readLine_11 : decode cX12_readLine 11 = .ok (.goto 5, 3) := by decide +kernel
theorem dX12_readLine_14 : decode cX12_readLine 14 = .ok (.bipush 12, 2) := by decide +kernel
theorem dX12_readLine_16 : decode cX12_readLine 16 = .ok (.if_icmp .ge 29, 3) := by decide +kernel
theorem dX12_readLine_19 : decode cX12_readLine 19 = .ok (.iload_n 1, 1) := by decide +kernel
theorem dX12_readLine_20 : decode cX12_readLine 20 = .ok (.ifCond .eq 13, 3) := by decide +kernel
theorem dX12_readLine_23 : decode cX12_readLine 23 = .ok (.aload_n 0, 1) := by decide +kernel
theorem dX12_readLine_24 : decode cX12_readLine 24 = .ok (.invokevirtual 220, 3) := by decide +kernel
theorem dX12_readLine_27 : decode cX12_readLine 27 = .ok (.ifCond .eq 18, 3) := by decide +kernel
theorem dX12_readLine_30 : decode cX12_readLine 30 = .ok (.goto 11, 3) := by decide +kernel
theorem dX12_readLine_33 : decode cX12_readLine 33 = .ok (.aload_n 0, 1) := by decide +kernel
theorem dX12_readLine_34 : decode cX12_readLine 34 = .ok (.iload_n 2, 1) := by decide +kernel
theorem dX12_readLine_35 : decode cX12_readLine 35 = .ok (.invokevirtual 223, 3) := by decide +kernel
theorem dX12_readLine_38 : decode cX12_readLine 38 = .ok (.ifCond .eq 7, 3) := by decide +kernel
theorem dX12_readLine_41 : decode cX12_readLine 41 = .ok (.iconst 1, 1) := by decide +kernel
theorem dX12_readLine_42 : decode cX12_readLine 42 = .ok (.goto 4, 3) := by decide +kernel
theorem dX12_readLine_45 : decode cX12_readLine 45 = .ok (.iconst 0, 1) := by decide +kernel
theorem dX12_readLine_46 : decode cX12_readLine 46 = .ok (.ireturn, 1) := by decide +kernel
set_option maxRecDepth 20000 in
theorem kb_187_0 : ∀ q ∈ tb_187_0, s_atx 187 yX12_readLine cX12_readLine q.1 q.2 := (List.forall_mem_cons.mpr ⟨⟨s_ldAn dX12_readLine_0 rfl, s_mo_ldA _ _⟩, (List.forall_mem_cons.mpr ⟨⟨s_sV mk_187 mk_169 ok_169 (by decide +kernel) dX12_readLine_1 w_1343 w_1345 wp_29 (Or.inr ⟨8, _, _, rfl, rfl⟩), s_h0 mk_187⟩, (List.forall_mem_cons.mpr ⟨⟨s_ldIn dX12_readLine_4 rfl, s_mo_ldI _ _⟩, (List.forall_mem_cons.mpr ⟨⟨s_ldIn dX12_readLine_5 rfl, s_mo_ldI _ _⟩, (List.forall_mem_cons.mpr ⟨⟨s_ifeq dX12_readLine_6 (by decide), s_mo_ifeq _ _⟩, (List.forall_mem_cons.mpr ⟨⟨s_bipush dX12_readLine_9 (by decide +kernel), s_mo_push _ _⟩, (List.forall_mem_cons.mpr ⟨⟨s_goto dX12_readLine_11 (by decide), s_mo_goto _⟩, (List.forall_mem_cons.mpr ⟨⟨s_bipush dX12_readLine_14 (by decide +kernel), s_mo_push _ _⟩, (List.forall_mem_cons.mpr ⟨⟨s_icge dX12_readLine_16 (by decide), s_mo_icge _ _⟩, (List.forall_mem_cons.mpr ⟨⟨s_ldIn dX12_readLine_19 rfl, s_mo_ldI _ _⟩, (List.forall_mem_cons.mpr ⟨⟨s_ifeq dX12_readLine_20 (by decide), s_mo_ifeq _ _⟩, (List.forall_mem_cons.mpr ⟨⟨s_ldAn dX12_readLine_23 rfl, s_mo_ldA _ _⟩, (List.forall_mem_cons.mpr ⟨⟨s_sV mk_187 mk_179 ok_179 (by decide +kernel) dX12_readLine_24 w_1347 w_1349 wp_30 (Or.inr ⟨8, _, _, rfl, rfl⟩), s_h0 mk_187⟩, (List.forall_mem_cons.mpr ⟨⟨s_ifeq dX12_readLine_27 (by decide), s_mo_ifeq _ _⟩, (List.forall_mem_cons.mpr ⟨⟨s_goto dX12_readLine_30 (by decide), s_mo_goto _⟩, (List.forall_mem_cons.mpr ⟨⟨s_ldAn dX12_readLine_33 rfl, s_mo_ldA _ _⟩, (List.forall_mem_cons.mpr ⟨⟨s_ldIn dX12_readLine_34 rfl, s_mo_ldI _ _⟩, (List.forall_mem_cons.mpr ⟨⟨s_sV mk_187 mk_186 ok_186 (by decide +kernel) dX12_readLine_35 w_1395 w_1397 wp_39 (Or.inr ⟨8, _, _, rfl, rfl⟩), s_h0 mk_187⟩, (List.forall_mem_cons.mpr ⟨⟨s_ifeq dX12_readLine_38 (by decide), s_mo_ifeq _ _⟩, (List.forall_mem_cons.mpr ⟨⟨s_iconst dX12_readLine_41 (by decide +kernel), s_mo_push _ _⟩, (List.forall_mem_cons.mpr ⟨⟨s_goto dX12_readLine_42 (by decide), s_mo_goto _⟩, (List.forall_mem_cons.mpr ⟨⟨s_iconst dX12_readLine_45 (by decide +kernel), s_mo_push _ _⟩, (List.forall_mem_cons.mpr ⟨s_r2 mk_187 dX12_readLine_46, (fun _ h => absurd h List.not_mem_nil)⟩)⟩)⟩)⟩)⟩)⟩)⟩)⟩)⟩)⟩)⟩)⟩)⟩)⟩)⟩)⟩)⟩)⟩)⟩)⟩)⟩)⟩)⟩)
theorem km_187 : ∀ t ∈ tm_187, s_tok 187 t := (List.forall_mem_cons.mpr ⟨s_lift mk_187 kb_187_0, (fun _ h => absurd h List.not_mem_nil)⟩)
theorem dX12_readAll_0 : decode cX12_readAll 0 = .ok (.aload_n 0, 1) := by decide +kernel
theorem dX12_readAll_1 : decode cX12_readAll 1 = .ok (.aload_n 0, 1) := by decide +kernel
theorem dX12_readAll_2 : decode cX12_readAll 2 = .ok (.getfield 95, 3) := by decide +kernel
theorem dX12_readAll_5 : decode cX12_readAll 5 = .ok (.putfield 101, 3) := by decide +kernel
theorem dX12_readAll_8 : decode cX12_readAll 8 = .ok (.aload_n 0, 1) := by decide +kernel
theorem dX12_readAll_9 : decode cX12_readAll 9 = .ok (.iconst 0, 1) := by decide +kernel
theorem dX12_readAll_10 : decode cX12_readAll 10 = .ok (.putfield 95, 3) := by decide +kernel
theorem dX12_readAll_13 : decode cX12_readAll 13 = .ok (.aload_n 0, 1) := by decide +kernel
theorem dX12_readAll_14 : decode cX12_readAll 14 = .ok (.iconst 0, 1) := by decide +kernel
theorem dX12_readAll_15 : decode cX12_readAll 15 = .ok (.putfield 98, 3) := by decide +kernel
theorem dX12_readAll_18 : decode cX12_readAll 18 = .ok (.aload_n 0, 1) := by decide +kernel
theorem dX12_readAll_19 : decode cX12_readAll 19 = .ok (.iconst 0, 1) := by decide +kernel
theorem dX12_readAll_20 : decode cX12_readAll 20 = .ok (.putfield 169, 3) := by decide +kernel
theorem dX12_readAll_23 : decode cX12_readAll 23 = .ok (.aload_n 0, 1) := by decide +kernel
theorem dX12_readAll_24 : decode cX12_readAll 24 = .ok (.invokevirtual 111, 3) := by decide +kernel
theorem dX12_readAll_27 : decode cX12_readAll 27 = .ok (.aload_n 0, 1) := by decide +kernel
theorem dX12_readAll_28 : decode cX12_readAll 28 = .ok (.getfield 98, 3) := by decide +kernel
theorem dX12_readAll_31 : decode cX12_readAll 31 = .ok (.aload_n 0, 1) := by decide +kernel
theorem dX12_readAll_32 : decode cX12_readAll 32 = .ok (.getfield 101, 3) := by decide +kernel
theorem dX12_readAll_35 : decode cX12_readAll 35 = .ok (.if_icmp .ne 5, 3) := by decide +kernel
theorem dX12_readAll_38 : decode cX12_readAll 38 = .ok (.iconst 0, 1) := by decide +kernel
theorem dX12_readAll_39 : decode cX12_readAll 39 = .ok (.ireturn, 1) := by decide +kernel
theorem dX12_readAll_40 : decode cX12_readAll 40 = .ok (.iconst 0, 1) := by decide +kernel
theorem dX12_readAll_41 : decode cX12_readAll 41 = .ok (.istore_n 2, 1) := by decide +kernel
theorem dX12_readAll_42 : decode cX12_readAll 42 = .ok (.aload_n 0, 1) := by decide +kernel
theorem dX12_readAll_43 : decode cX12_readAll 43 = .ok (.iload_n 1, 1) := by decide +kernel
theorem dX12_readAll_44 : decode cX12_readAll 44 = .ok (.iload_n 2, 1) := by decide +kernel
theorem dX12_readAll_45 : decode cX12_readAll 45 = .ok (.invokevirtual 226, 3) := by decide +kernel
theorem dX12_readAll_48 : decode cX12_readAll 48 = .ok (.ifCond .ne 5, 3) := by decide +kernel
theorem dX12_readAll_51 : decode cX12_readAll 51 = .ok (.iconst (-1), 1) := by decide +kernel
theorem dX12_readAll_52 : decode cX12_readAll 52 = .ok (.ireturn, 1) := by decide +kernel
theorem dX12_readAll_53 : decode cX12_readAll 53 = .ok (.aload_n 0, 1) := by decide +kernel
theorem dX12_readAll_54 : decode cX12_readAll 54 = .ok (.invokevirtual 111, 3) := by decide +kernel
theorem dX12_readAll_57 : decode cX12_readAll 57 = .ok (.aload_n 0, 1) := by decide +kernel
theorem dX12_readAll_58 : decode cX12_readAll 58 = .ok (.getfield 98, 3) := by decide +kernel
theorem dX12_readAll_61 : decode cX12_readAll 61 = .ok (.aload_n 0, 1) := by decide +kernel
theorem dX12_readAll_62 : decode cX12_readAll 62 = .ok (.getfield 101, 3) := by decide +kernel
theorem dX12_readAll_65 : decode cX12_readAll 65 = .ok (.if_icmp .ne 7, 3) := by decide +kernel
theorem dX12_readAll_68 : decode cX12_readAll 68 = .ok (.iload_n 2, 1) := by decide +kernel
theorem dX12_readAll_69 : decode cX12_readAll 69 = .ok (.iconst 1, 1) := by decide +kernel
theorem dX12_readAll_70 : decode cX12_readAll 70 = .ok (.iadd, 1) := by decide +kernel
theorem dX12_readAll_71 : decode cX12_readAll 71 = .ok (.ireturn, 1) := by decide +kernel
theorem dX12_readAll_72 : decode cX12_readAll 72 = .ok (.aload_n 0, 1) := by decide +kernel
theorem dX12_readAll_73 : decode cX12_readAll 73 = .ok (.bipush 59, 2) := by decide +kernel
theorem dX12_readAll_75 : decode cX12_readAll 75 = .ok (.bipush 59, 2) := by decide +kernel
theorem dX12_readAll_77 : decode cX12_readAll 77 = .ok (.invokevirtual 104, 3) := by decide +kernel
theorem dX12_readAll_80 : decode cX12_readAll 80 = .ok (.ifCond .ne 5, 3) := by decide +kernel
theorem dX12_readAll_83 : decode cX12_readAll 83 = .ok (.iconst (-1), 1) := by decide +kernel
theorem dX12_readAll_84 : decode cX12_readAll 84 = .ok (.ireturn, 1) := by decide +kernel
theorem dX12_readAll_85 : decode cX12_readAll 85 = .ok (.aload_n 0, 1) := by decide +kernel
theorem dX12_readAll_86 : decode cX12_readAll 86 = .ok (.dup, 1) := by decide +kernel
theorem dX12_readAll_87 : decode cX12_readAll 87 = .ok (.getfield 98, 3) := by decide +kernel
theorem dX12_readAll_90 : decode cX12_readAll 90 = .ok (.iconst 1, 1) := by decide +kernel
theorem dX12_readAll_91 : decode cX12_readAll 91 = .ok (.iadd, 1) := by decide +kernel
theorem dX12_readAll_92 : decode cX12_readAll 92 = .ok (.putfield 98, 3) := by decide +kernel
theorem dX12_readAll_95 : decode cX12_readAll 95 = .ok (.iinc 2 1, 3) := by decide +kernel
theorem dX12_readAll_98 : decode cX12_readAll 98 = .ok (.goto (-56), 3) := by decide +kernel
set_option maxRecDepth 20000 in
theorem kb_188_0 : ∀ q ∈ tb_188_0, s_atx 188 yX12_readAll cX12_readAll q.1 q.2 := (List.forall_mem_cons.mpr ⟨⟨s_ldAn dX12_readAll_0 rfl, s_mo_ldA _ _⟩, (List.forall_mem_cons.mpr ⟨⟨s_ldAn dX12_readAll_1 rfl, s_mo_ldA _ _⟩, (List.forall_mem_cons.mpr ⟨⟨s_getf (ci := 8) (k := 8) rfl (by decide) inX12 w_1229 dX12_readAll_2, s_mo_getf _ _ _⟩, (List.forall_mem_cons.mpr ⟨⟨s_putI (ci := 8) (k := 10) rfl (by decide) inX12 tyX12_ok nmX12 rfl rfl w_1231 dX12_readAll_5, s_mo_putI _ _ _⟩, (List.forall_mem_cons.mpr ⟨⟨s_ldAn dX12_readAll_8 rfl, s_mo_ldA _ _⟩, (List.forall_mem_cons.mpr ⟨⟨s_iconst dX12_readAll_9 (by decide +kernel), s_mo_push _ _⟩, (List.forall_mem_cons.mpr ⟨⟨s_putI (ci := 8) (k := 8) rfl (by decide) inX12 tyX12_ok nmX12 rfl rfl w_1229 dX12_readAll_10, s_mo_putI _ _ _⟩, (List.forall_mem_cons.mpr ⟨⟨s_ldAn dX12_readAll_13 rfl, s_mo_ldA _ _⟩, (List.forall_mem_cons.mpr ⟨⟨s_iconst dX12_readAll_14 (by decide +kernel), s_mo_push _ _⟩, (List.forall_mem_cons.mpr ⟨⟨s_putI (ci := 8) (k := 9) rfl (by decide) inX12 tyX12_ok nmX12 rfl rfl w_1230 dX12_readAll_15, s_mo_putI _ _ _⟩, (List.forall_mem_cons.mpr ⟨⟨s_ldAn dX12_readAll_18 rfl, s_mo_ldA _ _⟩, (List.forall_mem_cons.mpr ⟨⟨s_iconst dX12_readAll_19 (by decide +kernel), s_mo_push _ _⟩, (List.forall_mem_cons.mpr ⟨⟨s_putI (ci := 8) (k := 15) rfl (by decide) inX12 tyX12_ok nmX12 rfl rfl w_1236 dX12_readAll_20, s_mo_putI _ _ _⟩, (List.forall_mem_cons.mpr ⟨⟨s_ldAn dX12_readAll_23 rfl, s_mo_ldA _ _⟩, (List.forall_mem_cons.mpr ⟨⟨s_sV mk_188 mk_168 ok_168 (by decide +kernel) dX12_readAll_24 w_1331 w_1333 wp_26 (Or.inr ⟨8, _, _, rfl, rfl⟩), s_h0 mk_188⟩, (List.forall_mem_cons.mpr ⟨⟨s_ldAn dX12_readAll_27 rfl, s_mo_ldA _ _⟩, (List.forall_mem_cons.mpr ⟨⟨s_getf (ci := 8) (k := 9) rfl (by decide) inX12 w_1230 dX12_readAll_28, s_mo_getf _ _ _⟩, (List.forall_mem_cons.mpr ⟨⟨s_ldAn dX12_readAll_31 rfl, s_mo_ldA _ _⟩, (List.forall_mem_cons.mpr ⟨⟨s_getf (ci := 8) (k := 10) rfl (by decide) inX12 w_1231 dX12_readAll_32, s_mo_getf _ _ _⟩, (List.forall_mem_cons.mpr ⟨⟨s_icne dX12_readAll_35 (by decide), s_mo_icne _ _⟩, (List.forall_mem_cons.mpr ⟨⟨s_iconst dX12_readAll_38 (by decide +kernel), s_mo_push _ _⟩, (List.forall_mem_cons.mpr ⟨s_r1 mk_188 dX12_readAll_39, (List.forall_mem_cons.mpr ⟨⟨s_iconst dX12_readAll_40 (by decide +kernel), s_mo_push _ _⟩, (List.forall_mem_cons.mpr ⟨⟨s_stIn dX12_readAll_41 rfl, s_mo_stI _ _⟩, (List.forall_mem_cons.mpr ⟨⟨s_ldAn dX12_readAll_42 rfl, s_mo_ldA _ _⟩, (List.forall_mem_cons.mpr ⟨⟨s_ldIn dX12_readAll_43 rfl, s_mo_ldI _ _⟩, (List.forall_mem_cons.mpr ⟨⟨s_ldIn dX12_readAll_44 rfl, s_mo_ldI _ _⟩, (List.forall_mem_cons.mpr ⟨⟨s_sV mk_188 mk_187 ok_187 (by decide +kernel) dX12_readAll_45 w_1339 w_1341 wp_28 (Or.inr ⟨8, _, _, rfl, rfl⟩), s_h0 mk_188⟩, (List.forall_mem_cons.mpr ⟨⟨s_ifne dX12_readAll_48 (by decide), s_mo_ifne _ _⟩, (List.forall_mem_cons.mpr ⟨⟨s_iconst dX12_readAll_51 (by decide +kernel), s_mo_push _ _⟩, (List.forall_mem_cons.mpr ⟨s_r1 mk_188 dX12_readAll_52, (List.forall_mem_cons.mpr ⟨⟨s_ldAn dX12_readAll_53 rfl, s_mo_ldA _ _⟩, (List.forall_mem_cons.mpr ⟨⟨s_sV mk_188 mk_168 ok_168 (by decide +kernel) dX12_readAll_54 w_1331 w_1333 wp_26 (Or.inr ⟨8, _, _, rfl, rfl⟩), s_h0 mk_188⟩, (List.forall_mem_cons.mpr ⟨⟨s_ldAn dX12_readAll_57 rfl, s_mo_ldA _ _⟩, (List.forall_mem_cons.mpr ⟨⟨s_getf (ci := 8) (k := 9) rfl (by decide) inX12 w_1230 dX12_readAll_58, s_mo_getf _ _ _⟩, (List.forall_mem_cons.mpr ⟨⟨s_ldAn dX12_readAll_61 rfl, s_mo_ldA _ _⟩, (List.forall_mem_cons.mpr ⟨⟨s_getf (ci := 8) (k := 10) rfl (by decide) inX12 w_1231 dX12_readAll_62, s_mo_getf _ _ _⟩, (fun _ h => absurd h List.not_mem_nil)⟩)⟩)⟩)⟩)⟩)⟩)⟩)⟩)⟩)⟩)⟩)⟩)⟩)⟩)⟩)⟩)⟩)⟩)⟩)⟩)⟩)⟩)⟩)⟩)⟩)⟩)⟩)⟩)⟩)⟩)⟩)⟩)⟩)⟩)⟩)⟩)⟩)
set_option maxRecDepth 20000 in
theorem kb_188_1 : ∀ q ∈ tb_188_1, s_atx 188 yX12_readAll cX12_readAll q.1 q.2 := (List.forall_mem_cons.mpr ⟨⟨s_icne dX12_readAll_65 (by decide), s_mo_icne _ _⟩, (List.forall_mem_cons.mpr ⟨⟨s_ldIn dX12_readAll_68 rfl, s_mo_ldI _ _⟩, (List.forall_mem_cons.mpr ⟨⟨s_iconst dX12_readAll_69 (by decide +kernel), s_mo_push _ _⟩, (List.forall_mem_cons.mpr ⟨⟨s_iadd dX12_readAll_70, s_mo_bin _ _⟩, (List.forall_mem_cons.mpr ⟨s_r1 mk_188 dX12_readAll_71, (List.forall_mem_cons.mpr ⟨⟨s_ldAn dX12_readAll_72 rfl, s_mo_ldA _ _⟩, (List.forall_mem_cons.mpr ⟨⟨s_bipush dX12_readAll_73 (by decide +kernel), s_mo_push _ _⟩, (List.forall_mem_cons.mpr ⟨⟨s_bipush dX12_readAll_75 (by decide +kernel), s_mo_push _ _⟩, (List.forall_mem_cons.mpr ⟨⟨s_sV mk_188 mk_167 ok_167 (by decide +kernel) dX12_readAll_77 w_1335 w_1337 wp_27 (Or.inr ⟨8, _, _, rfl, rfl⟩), s_h0 mk_188⟩, (List.forall_mem_cons.mpr ⟨⟨s_ifne dX12_readAll_80 (by decide), s_mo_ifne _ _⟩, (List.forall_mem_cons.mpr ⟨⟨s_iconst dX12_readAll_83 (by decide +kernel), s_mo_push _ _⟩, (List.forall_mem_cons.mpr ⟨s_r1 mk_188 dX12_readAll_84, (List.forall_mem_cons.mpr ⟨⟨s_ldAn dX12_readAll_85 rfl, s_mo_ldA _ _⟩, (List.forall_mem_cons.mpr ⟨⟨s_dup dX12_readAll_86, s_mo_dup _⟩, (List.forall_mem_cons.mpr ⟨⟨s_getf (ci := 8) (k := 9) rfl (by decide) inX12 w_1230 dX12_readAll_87, s_mo_getf _ _ _⟩, (List.forall_mem_cons.mpr ⟨⟨s_iconst dX12_readAll_90 (by decide +kernel), s_mo_push _ _⟩, (List.forall_mem_cons.mpr ⟨⟨s_iadd dX12_readAll_91, s_mo_bin _ _⟩, (List.forall_mem_cons.mpr ⟨⟨s_putI (ci := 8) (k := 9) rfl (by decide) inX12 tyX12_ok nmX12 rfl rfl w_1230 dX12_readAll_92, s_mo_putI _ _ _⟩, (List.forall_mem_cons.mpr ⟨⟨s_inc dX12_readAll_95 (by decide +kernel), s_mo_inc _ _ _⟩, (List.forall_mem_cons.mpr ⟨⟨s_goto dX12_readAll_98 (by decide), s_mo_goto _⟩, (fun _ h => absurd h List.not_mem_nil)⟩)⟩)⟩)⟩)⟩)⟩)⟩)⟩)⟩)⟩)⟩)⟩)⟩)⟩)⟩)⟩)⟩)⟩)⟩)⟩)
theorem km_188 : ∀ t ∈ tm_188, s_tok 188 t := (List.forall_mem_cons.mpr ⟨s_lift mk_188 kb_188_0, (List.forall_mem_cons.mpr ⟨s_lift mk_188 kb_188_1, (fun _ h => absurd h List.not_mem_nil)⟩)⟩)
theorem dX12_city_0 : decode cX12_city 0 = .ok (.aload_n 0, 1) := by decide +kernel
theorem dX12_city_1 : decode cX12_city 1 = .ok (.iconst 0, 1) := by decide +kernel
theorem dX12_city_2 : decode cX12_city 2 = .ok (.putfield 3, 3) := by decide +kernel
theorem dX12_city_5 : decode cX12_city 5 = .ok (.iconst 0, 1) := by decide +kernel
theorem dX12_city_6 : decode cX12_city 6 = .ok (.istore_n 1, 1) := by decide +kernel
theorem dX12_city_7 : decode cX12_city 7 = .ok (.iload_n 1, 1) := by decide +kernel
theorem dX12_city_8 : decode cX12_city 8 = .ok (.sipush 1264, 3) := by decide +kernel
theorem dX12_city_11 : decode cX12_city 11 = .ok (.if_icmp .ge 21, 3) := by decide +kernel
theorem dX12_city_14 : decode cX12_city 14 = .ok (.aload_n 0, 1) := by decide +kernel
theorem dX12_city_15 : decode cX12_city 15 = .ok (.getfield 20, 3) := by decide +kernel
theorem dX12_city_18 : decode cX12_city 18 = .ok (.iload_n 1, 1) := by decide +kernel
theorem dX12_city_19 : decode cX12_city 19 = .ok (.aload_n 0, 1) := by decide +kernel
theorem dX12_city_20 : decode cX12_city 20 = .ok (.getfield 13, 3) := by decide +kernel
theorem dX12_city_23 : decode cX12_city 23 = .ok (.iload_n 1, 1) := by decide +kernel
theorem dX12_city_24 : decode cX12_city 24 = .ok (.iaload, 1) := by decide +kernel
theorem dX12_city_25 : decode cX12_city 25 = .ok (.iastore, 1) := by decide +kernel
theorem dX12_city_26 : decode cX12_city 26 = .ok (.iinc 1 1, 3) := by decide +kernel
theorem dX12_city_29 : decode cX12_city 29 = .ok (.goto (-22), 3) := by decide +kernel
theorem dX12_city_32 : decode cX12_city 32 = .ok (.aload_n 0, 1) := by decide +kernel
theorem dX12_city_33 : decode cX12_city 33 = .ok (.iconst 1, 1) := by decide +kernel
theorem dX12_city_34 : decode cX12_city 34 = .ok (.invokevirtual 230, 3) := by decide +kernel
theorem dX12_city_37 : decode cX12_city 37 = .ok (.istore_n 1, 1) := by decide +kernel
theorem dX12_city_38 : decode cX12_city 38 = .ok (.aload_n 0, 1) := by decide +kernel
theorem dX12_city_39 : decode cX12_city 39 = .ok (.iload_n 1, 1) := by decide +kernel
theorem dX12_city_40 : decode cX12_city 40 = .ok (.ifCond .ge 10, 3) := by decide +kernel
theorem dX12_city_43 : decode cX12_city 43 = .ok (.aload_n 0, 1) := by decide +kernel
theorem dX12_city_44 : decode cX12_city 44 = .ok (.getfield 108, 3) := by decide +kernel
theorem dX12_city_47 : decode cX12_city 47 = .ok (.goto 4, 3) := by decide +kernel
theorem dX12_city_50 : decode cX12_city 50 = .ok (.iconst (-1), 1) := by decide +kernel
theorem dX12_city_51 : decode cX12_city 51 = .ok (.putfield 30, 3) := by decide +kernel
theorem dX12_city_54 : decode cX12_city 54 = .ok (.aload_n 0, 1) := by decide +kernel
theorem dX12_city_55 : decode cX12_city 55 = .ok (.iload_n 1, 1) := by decide +kernel
theorem dX12_city_56 : decode cX12_city 56 = .ok (.ifCond .ge 7, 3) := by decide +kernel
theorem dX12_city_59 : decode cX12_city 59 = .ok (.iconst 1, 1) := by decide +kernel
theorem dX12_city_60 : decode cX12_city 60 = .ok (.goto 4, 3) := by decide +kernel
theorem dX12_city_63 : decode cX12_city 63 = .ok (.iconst 0, 1) := by decide +kernel
theorem dX12_city_64 : decode cX12_city 64 = .ok (.iconst 1, 1) := by decide +kernel
theorem dX12_city_65 : decode cX12_city 65 = .ok (.invokevirtual 234, 3) := by decide +kernel
theorem dX12_city_68 : decode cX12_city 68 = .ok (.ifCond .ne 27, 3) := by decide +kernel
theorem dX12_city_71 : decode cX12_city 71 = .ok (.aload_n 0, 1) := by decide +kernel
theorem dX12_city_72 : decode cX12_city 72 = .ok (.aload_n 0, 1) := by decide +kernel
theorem dX12_city_73 : decode cX12_city 73 = .ok (.getfield 13, 3) := by decide +kernel
theorem dX12_city_76 : decode cX12_city 76 = .ok (.iconst 3, 1) := by decide +kernel
theorem dX12_city_77 : decode cX12_city 77 = .ok (.iaload, 1) := by decide +kernel
theorem dX12_city_78 : decode cX12_city 78 = .ok (.bipush 10, 2) := by decide +kernel
theorem dX12_city_80 : decode cX12_city 80 = .ok (.if_icmp .ne 7, 3) := by decide +kernel
theorem dX12_city_83 : decode cX12_city 83 = .ok (.iconst 1, 1) := by decide +kernel
theorem dX12_city_84 : decode cX12_city 84 = .ok (.goto 4, 3) := by decide +kernel
theorem dX12_city_87 : decode cX12_city 87 = .ok (.iconst 0, 1) := by decide +kernel
theorem dX12_city_88 : decode cX12_city 88 = .ok (.iconst 2, 1) := by decide +kernel
theorem dX12_city_89 : decode cX12_city 89 = .ok (.invokevirtual 234, 3) := by decide +kernel
theorem dX12_city_92 : decode cX12_city 92 = .ok (.ifCond .eq 32, 3) := by decide +kernel
theorem dX12_city_95 : decode cX12_city 95 = .ok (.iconst 0, 1) := by decide +kernel
theorem dX12_city_96 : decode cX12_city 96 = .ok (.istore_n 2, 1) := by decide +kernel
theorem dX12_city_97 : decode cX12_city 97 = .ok (.iload_n 2, 1) := by decide +kernel
theorem dX12_city_98 : decode cX12_city 98 = .ok (.sipush 1264, 3) := by decide +kernel
theorem dX12_city_101 : decode cX12_city 101 = .ok (.if_icmp .ge 21, 3) := by decide +kernel
theorem dX12_city_104 : decode cX12_city 104 = .ok (.aload_n 0, 1) := by decide +kernel
theorem dX12_city_105 : decode cX12_city 105 = .ok (.getfield 13, 3) := by decide +kernel
theorem dX12_city_108 : decode cX12_city 108 = .ok (.iload_n 2, 1) := by decide +kernel
theorem dX12_city_109 : decode cX12_city 109 = .ok (.aload_n 0, 1) := by decide +kernel
theorem dX12_city_110 : decode cX12_city 110 = .ok (.getfield 20, 3) := by decide +kernel
theorem dX12_city_113 : decode cX12_city 113 = .ok (.iload_n 2, 1) := by decide +kernel
theorem dX12_city_114 : decode cX12_city 114 = .ok (.iaload, 1) := by decide +kernel
theorem dX12_city_115 : decode cX12_city 115 = .ok (.iastore, 1) := by decide +kernel
theorem dX12_city_116 : decode cX12_city 116 = .ok (.iinc 2 1, 3) := by decide +kernel
theorem dX12_city_119 : decode cX12_city 119 = .ok (.goto (-22), 3) := by decide +kernel
theorem dX12_city_122 : decode cX12_city 122 = .ok (.iconst 0, 1) := by decide +kernel
theorem dX12_city_123 : decode cX12_city 123 = .ok (.ireturn, 1) := by decide +kernel
theorem dX12_city_124 : decode cX12_city 124 = .ok (.aload_n 0, 1) := by decide +kernel
theorem dX12_city_125 : decode cX12_city 125 = .ok (.getfield 13, 3) := by decide +kernel
theorem dX12_city_128 : decode cX12_city 128 = .ok (.iconst 3, 1) := by decide +kernel
theorem dX12_city_129 : decode cX12_city 129 = .ok (.dup2, 1) := by decide +kernel
theorem dX12_city_130 : decode cX12_city 130 = .ok (.iaload, 1) := by decide +kernel
theorem dX12_city_131 : decode cX12_city 131 = .ok (.iconst 1, 1) := by decide +kernel
theorem dX12_city_132 : decode cX12_city 132 = .ok (.iadd, 1) := by decide +kernel
theorem dX12_city_133 : decode cX12_city 133 = .ok (.iastore, 1) := by decide +kernel
theorem dX12_city_134 : decode cX12_city 134 = .ok (.aload_n 0, 1) := by decide +kernel
theorem dX12_city_135 : decode cX12_city 135 = .ok (.iconst 0, 1) := by decide +kernel
theorem dX12_city_136 : decode cX12_city 136 = .ok (.putfield 77, 3) := by decide +kernel
theorem dX12_city_139 : decode cX12_city 139 = .ok (.aload_n 0, 1) := by decide +kernel
theorem dX12_city_140 : decode cX12_city 140 = .ok (.getfield 13, 3) := by decide +kernel
theorem dX12_city_143 : decode cX12_city 143 = .ok (.iconst 3, 1) := by decide +kernel
theorem dX12_city_144 : decode cX12_city 144 = .ok (.iaload, 1) := by decide +kernel
theorem dX12_city_145 : decode cX12_city 145 = .ok (.ireturn, 1) := by decide +kernel
set_option maxRecDepth 20000 in
theorem kb_189_0 : ∀ q ∈ tb_189_0, s_atx 189 yX12_city cX12_city q.1 q.2 := (List.forall_mem_cons.mpr ⟨⟨s_ldAn dX12_city_0 rfl, s_mo_ldA _ _⟩, (List.forall_mem_cons.mpr ⟨⟨s_iconst dX12_city_1 (by decide +kernel), s_mo_push _ _⟩, (List.forall_mem_cons.mpr ⟨⟨s_putI (ci := 8) (k := 0) rfl (by decide) inX12 tyX12_ok nmX12 rfl rfl w_1221 dX12_city_2, s_mo_putI _ _ _⟩, (List.forall_mem_cons.mpr ⟨⟨s_iconst dX12_city_5 (by decide +kernel), s_mo_push _ _⟩, (List.forall_mem_cons.mpr ⟨⟨s_stIn dX12_city_6 rfl, s_mo_stI _ _⟩, (List.forall_mem_cons.mpr ⟨⟨s_ldIn dX12_city_7 rfl, s_mo_ldI _ _⟩, (List.forall_mem_cons.mpr ⟨⟨s_sipush dX12_city_8 (by decide +kernel), s_mo_push _ _⟩, (List.forall_mem_cons.mpr ⟨⟨s_icge dX12_city_11 (by decide), s_mo_icge _ _⟩, (List.forall_mem_cons.mpr ⟨⟨s_ldAn dX12_city_14 rfl, s_mo_ldA _ _⟩, (List.forall_mem_cons.mpr ⟨⟨s_getf (ci := 8) (k := 3) rfl (by decide) inX12 w_1224 dX12_city_15, s_mo_getf _ _ _⟩, (List.forall_mem_cons.mpr ⟨⟨s_ldIn dX12_city_18 rfl, s_mo_ldI _ _⟩, (List.forall_mem_cons.mpr ⟨⟨s_ldAn dX12_city_19 rfl, s_mo_ldA _ _⟩, (List.forall_mem_cons.mpr ⟨⟨s_getf (ci := 8) (k := 1) rfl (by decide) inX12 w_1222 dX12_city_20, s_mo_getf _ _ _⟩, (List.forall_mem_cons.mpr ⟨⟨s_ldIn dX12_city_23 rfl, s_mo_ldI _ _⟩, (List.forall_mem_cons.mpr ⟨⟨s_iald dX12_city_24, s_mo_iald _⟩, (List.forall_mem_cons.mpr ⟨⟨s_iast dX12_city_25, s_mo_iast _⟩, (List.forall_mem_cons.mpr ⟨⟨s_inc dX12_city_26 (by decide +kernel), s_mo_inc _ _ _⟩, (List.forall_mem_cons.mpr ⟨⟨s_goto dX12_city_29 (by decide), s_mo_goto _⟩, (List.forall_mem_cons.mpr ⟨⟨s_ldAn dX12_city_32 rfl, s_mo_ldA _ _⟩, (List.forall_mem_cons.mpr ⟨⟨s_iconst dX12_city_33 (by decide +kernel), s_mo_push _ _⟩, (List.forall_mem_cons.mpr ⟨⟨s_sV mk_189 mk_188 ok_188 (by decide +kernel) dX12_city_34 w_1327 w_1329 wp_25 (Or.inr ⟨8, _, _, rfl, rfl⟩), s_h0 mk_189⟩, (List.forall_mem_cons.mpr ⟨⟨s_stIn dX12_city_37 rfl, s_mo_stI _ _⟩, (List.forall_mem_cons.mpr ⟨⟨s_ldAn dX12_city_38 rfl, s_mo_ldA _ _⟩, (List.forall_mem_cons.mpr ⟨⟨s_ldIn dX12_city_39 rfl, s_mo_ldI _ _⟩, (List.forall_mem_cons.mpr ⟨⟨s_ifge dX12_city_40 (by decide), s_mo_ifge _ _⟩, (List.forall_mem_cons.mpr ⟨⟨s_ldAn dX12_city_43 rfl, s_mo_ldA _ _⟩, (List.forall_mem_cons.mpr ⟨⟨s_getf (ci := 8) (k := 11) rfl (by decide) inX12 w_1232 dX12_city_44, s_mo_getf _ _ _⟩, (List.forall_mem_cons.mpr ⟨⟨s_goto dX12_city_47 (by decide), s_mo_goto _⟩, (List.forall_mem_cons.mpr ⟨⟨s_iconst dX12_city_50 (by decide +kernel), s_mo_push _ _⟩, (List.forall_mem_cons.mpr ⟨⟨s_putI (ci := 8) (k := 13) rfl (by decide) inX12 tyX12_ok nmX12 rfl rfl w_1234 dX12_city_51, s_mo_putI _ _ _⟩, (List.forall_mem_cons.mpr ⟨⟨s_ldAn dX12_city_54 rfl, s_mo_ldA _ _⟩, (List.forall_mem_cons.mpr ⟨⟨s_ldIn dX12_city_55 rfl, s_mo_ldI _ _⟩, (List.forall_mem_cons.mpr ⟨⟨s_ifge dX12_city_56 (by decide), s_mo_ifge _ _⟩, (List.forall_mem_cons.mpr ⟨⟨s_iconst dX12_city_59 (by decide +kernel), s_mo_push _ _⟩, (List.forall_mem_cons.mpr ⟨⟨s_goto dX12_city_60 (by decide), s_mo_goto _⟩, (List.forall_mem_cons.mpr ⟨⟨s_iconst dX12_city_63 (by decide +kernel), s_mo_push _ _⟩, (fun _ h => absurd h List.not_mem_nil)⟩)⟩)⟩)⟩)⟩)⟩)⟩)⟩)⟩)⟩)⟩)⟩)⟩)⟩)⟩)⟩)⟩)⟩)⟩)⟩)⟩)⟩)⟩)⟩)⟩)⟩)⟩)⟩)⟩)⟩)⟩)⟩)⟩)⟩)⟩)⟩)
set_option maxRecDepth 20000 in
theorem kb_189_1 : ∀ q ∈ tb_189_1, s_atx 189 yX12_city cX12_city q.1 q.2 := (List.forall_mem_cons.mpr ⟨⟨s_iconst dX12_city_64 (by decide +kernel), s_mo_push _ _⟩, (List.forall_mem_cons.mpr ⟨⟨s_sV mk_189 mk_149 ok_149 (by decide +kernel) dX12_city_65 w_1438 w_1440 wp_47 (Or.inr ⟨8, _, _, rfl, rfl⟩), s_h0 mk_189⟩, (List.forall_mem_cons.mpr ⟨⟨s_ifne dX12_city_68 (by decide), s_mo_ifne _ _⟩, (List.forall_mem_cons.mpr ⟨⟨s_ldAn dX12_city_71 rfl, s_mo_ldA _ _⟩, (List.forall_mem_cons.mpr ⟨⟨s_ldAn dX12_city_72 rfl, s_mo_ldA _ _⟩, (List.forall_mem_cons.mpr ⟨⟨s_getf (ci := 8) (k := 1) rfl (by decide) inX12 w_1222 dX12_city_73, s_mo_getf _ _ _⟩, (List.forall_mem_cons.mpr ⟨⟨s_iconst dX12_city_76 (by decide +kernel), s_mo_push _ _⟩, (List.forall_mem_cons.mpr ⟨⟨s_iald dX12_city_77, s_mo_iald _⟩, (List.forall_mem_cons.mpr ⟨⟨s_bipush dX12_city_78 (by decide +kernel), s_mo_push _ _⟩, (List.forall_mem_cons.mpr ⟨⟨s_icne dX12_city_80 (by decide), s_mo_icne _ _⟩, (List.forall_mem_cons.mpr ⟨⟨s_iconst dX12_city_83 (by decide +kernel), s_mo_push _ _⟩, (List.forall_mem_cons.mpr ⟨⟨s_goto dX12_city_84 (by decide), s_mo_goto _⟩, (List.forall_mem_cons.mpr ⟨⟨s_iconst dX12_city_87 (by decide +kernel), s_mo_push _ _⟩, (List.forall_mem_cons.mpr ⟨⟨s_iconst dX12_city_88 (by decide +kernel), s_mo_push _ _⟩, (List.forall_mem_cons.mpr ⟨⟨s_sV mk_189 mk_149 ok_149 (by decide +kernel) dX12_city_89 w_1438 w_1440 wp_47 (Or.inr ⟨8, _, _, rfl, rfl⟩), s_h0 mk_189⟩, (List.forall_mem_cons.mpr ⟨⟨s_ifeq dX12_city_92 (by decide), s_mo_ifeq _ _⟩, (List.forall_mem_cons.mpr ⟨⟨s_iconst dX12_city_95 (by decide +kernel), s_mo_push _ _⟩, (List.forall_mem_cons.mpr ⟨⟨s_stIn dX12_city_96 rfl, s_mo_stI _ _⟩, (List.forall_mem_cons.mpr ⟨⟨s_ldIn dX12_city_97 rfl, s_mo_ldI _ _⟩, (List.forall_mem_cons.mpr ⟨⟨s_sipush dX12_city_98 (by decide +kernel), s_mo_push _ _⟩, (List.forall_mem_cons.mpr ⟨⟨s_icge dX12_city_101 (by decide), s_mo_icge _ _⟩, (List.forall_mem_cons.mpr ⟨⟨s_ldAn dX12_city_104 rfl, s_mo_ldA _ _⟩, (List.forall_mem_cons.mpr ⟨⟨s_getf (ci := 8) (k := 1) rfl (by decide) inX12 w_1222 dX12_city_105, s_mo_getf _ _ _⟩, (List.forall_mem_cons.mpr ⟨⟨s_ldIn dX12_city_108 rfl, s_mo_ldI _ _⟩, (List.forall_mem_cons.mpr ⟨⟨s_ldAn dX12_city_109 rfl, s_mo_ldA _ _⟩, (List.forall_mem_cons.mpr ⟨⟨s_getf (ci := 8) (k := 3) rfl (by decide) inX12 w_1224 dX12_city_110, s_mo_getf _ _ _⟩, (List.forall_mem_cons.mpr ⟨⟨s_ldIn dX12_city_113 rfl, s_mo_ldI _ _⟩, (List.forall_mem_cons.mpr ⟨⟨s_iald dX12_city_114, s_mo_iald _⟩, (List.forall_mem_cons.mpr ⟨⟨s_iast dX12_city_115, s_mo_iast _⟩, (List.forall_mem_cons.mpr ⟨⟨s_inc dX12_city_116 (by decide +kernel), s_mo_inc _ _ _⟩, (List.forall_mem_cons.mpr ⟨⟨s_goto dX12_city_119 (by decide), s_mo_goto _⟩, (List.forall_mem_cons.mpr ⟨⟨s_iconst dX12_city_122 (by decide +kernel), s_mo_push _ _⟩, (List.forall_mem_cons.mpr ⟨s_r1 mk_189 dX12_city_123, (List.forall_mem_cons.mpr ⟨⟨s_ldAn dX12_city_124 rfl, s_mo_ldA _ _⟩, (List.forall_mem_cons.mpr ⟨⟨s_getf (ci := 8) (k := 1) rfl (by decide) inX12 w_1222 dX12_city_125, s_mo_getf _ _ _⟩, (fun _ h => absurd h List.not_mem_nil)⟩)⟩)⟩)⟩)⟩)⟩)⟩)⟩)⟩)⟩)⟩)⟩)⟩)⟩)⟩)⟩)⟩)⟩)⟩)⟩)⟩)⟩)⟩)⟩)⟩)⟩)⟩)⟩)⟩)⟩)⟩)⟩)⟩)⟩)⟩)
set_option maxRecDepth 20000 in
theorem kb_189_2 : ∀ q ∈ tb_189_2, s_atx 189 yX12_city cX12_city q.1 q.2 := (List.forall_mem_cons.mpr ⟨⟨s_iconst dX12_city_128 (by decide +kernel), s_mo_push _ _⟩, (List.forall_mem_cons.mpr ⟨⟨s_dup2 dX12_city_129, s_mo_dup2 _⟩, (List.forall_mem_cons.mpr ⟨⟨s_iald dX12_city_130, s_mo_iald _⟩, (List.forall_mem_cons.mpr ⟨⟨s_iconst dX12_city_131 (by decide +kernel), s_mo_push _ _⟩, (List.forall_mem_cons.mpr ⟨⟨s_iadd dX12_city_132, s_mo_bin _ _⟩, (List.forall_mem_cons.mpr ⟨⟨s_iast dX12_city_133, s_mo_iast _⟩, (List.forall_mem_cons.mpr ⟨⟨s_ldAn dX12_city_134 rfl, s_mo_ldA _ _⟩, (List.forall_mem_cons.mpr ⟨⟨s_iconst dX12_city_135 (by decide +kernel), s_mo_push _ _⟩, (List.forall_mem_cons.mpr ⟨⟨s_putI (ci := 8) (k := 6) rfl (by decide) inX12 tyX12_ok nmX12 rfl rfl w_1227 dX12_city_136, s_mo_putI _ _ _⟩, (List.forall_mem_cons.mpr ⟨⟨s_ldAn dX12_city_139 rfl, s_mo_ldA _ _⟩, (List.forall_mem_cons.mpr ⟨⟨s_getf (ci := 8) (k := 1) rfl (by decide) inX12 w_1222 dX12_city_140, s_mo_getf _ _ _⟩, (List.forall_mem_cons.mpr ⟨⟨s_iconst dX12_city_143 (by decide +kernel), s_mo_push _ _⟩, (List.forall_mem_cons.mpr ⟨⟨s_iald dX12_city_144, s_mo_iald _⟩, (List.forall_mem_cons.mpr ⟨s_r1 mk_189 dX12_city_145, (fun _ h => absurd h List.not_mem_nil)⟩)⟩)⟩)⟩)⟩)⟩)⟩)⟩)⟩)⟩)⟩)⟩)⟩)⟩)
theorem km_189 : ∀ t ∈ tm_189, s_tok 189 t := (List.forall_mem_cons.mpr ⟨s_lift mk_189 kb_189_0, (List.forall_mem_cons.mpr ⟨s_lift mk_189 kb_189_1, (List.forall_mem_cons.mpr ⟨s_lift mk_189 kb_189_2, (fun _ h => absurd h List.not_mem_nil)⟩)⟩)⟩)
theorem dX12_shame_0 : decode cX12_shame 0 = .ok (.aload_n 0, 1) := by decide +kernel
theorem dX12_shame_1 : decode cX12_shame 1 = .ok (.iconst 0, 1) := by decide +kernel
theorem dX12_shame_2 : decode cX12_shame 2 = .ok (.putfield 3, 3) := by decide +kernel
theorem dX12_shame_5 : decode cX12_shame 5 = .ok (.aload_n 0, 1) := by decide +kernel
theorem dX12_shame_6 : decode cX12_shame 6 = .ok (.iconst 0, 1) := by decide +kernel
theorem dX12_shame_7 : decode cX12_shame 7 = .ok (.invokevirtual 230, 3) := by decide +kernel
theorem dX12_shame_10 : decode cX12_shame 10 = .ok (.istore_n 1, 1) := by decide +kernel
theorem dX12_shame_11 : decode cX12_shame 11 = .ok (.aload_n 0, 1) := by decide +kernel
theorem dX12_shame_12 : decode cX12_shame 12 = .ok (.iload_n 1, 1) := by decide +kernel
theorem dX12_shame_13 : decode cX12_shame 13 = .ok (.ifCond .ge 10, 3) := by decide +kernel
theorem dX12_shame_16 : decode cX12_shame 16 = .ok (.aload_n 0, 1) := by decide +kernel
theorem dX12_shame_17 : decode cX12_shame 17 = .ok (.getfield 108, 3) := by decide +kernel
theorem dX12_shame_20 : decode cX12_shame 20 = .ok (.goto 4, 3) := by decide +kernel
theorem dX12_shame_23 : decode cX12_shame 23 = .ok (.iconst (-1), 1) := by decide +kernel
theorem dX12_shame_24 : decode cX12_shame 24 = .ok (.putfield 30, 3) := by decide +kernel
theorem dX12_shame_27 : decode cX12_shame 27 = .ok (.aload_n 0, 1) := by decide +kernel
theorem dX12_shame_28 : decode cX12_shame 28 = .ok (.iload_n 1, 1) := by decide +kernel
theorem dX12_shame_29 : decode cX12_shame 29 = .ok (.ifCond .ge 7, 3) := by decide +kernel
theorem dX12_shame_32 : decode cX12_shame 32 = .ok (.iconst 1, 1) := by decide +kernel
theorem dX12_shame_33 : decode cX12_shame 33 = .ok (.goto 4, 3) := by decide +kernel
theorem dX12_shame_36 : decode cX12_shame 36 = .ok (.iconst 0, 1) := by decide +kernel
theorem dX12_shame_37 : decode cX12_shame 37 = .ok (.iconst 1, 1) := by decide +kernel
theorem dX12_shame_38 : decode cX12_shame 38 = .ok (.invokevirtual 234, 3) := by decide +kernel
theorem dX12_shame_41 : decode cX12_shame 41 = .ok (.ifCond .eq 5, 3) := by decide +kernel
theorem dX12_shame_44 : decode cX12_shame 44 = .ok (.iconst 0, 1) := by decide +kernel
theorem dX12_shame_45 : decode cX12_shame 45 = .ok (.ireturn, 1) := by decide +kernel
theorem dX12_shame_46 : decode cX12_shame 46 = .ok (.aload_n 0, 1) := by decide +kernel
theorem dX12_shame_47 : decode cX12_shame 47 = .ok (.getfield 13, 3) := by decide +kernel
theorem dX12_shame_50 : decode cX12_shame 50 = .ok (.sipush 1264, 3) := by decide +kernel
theorem dX12_shame_53 : decode cX12_shame 53 = .ok (.iload_n 1, 1) := by decide +kernel
theorem dX12_shame_54 : decode cX12_shame 54 = .ok (.iastore, 1) := by decide +kernel
theorem dX12_shame_55 : decode cX12_shame 55 = .ok (.iconst 0, 1) := by decide +kernel
theorem dX12_shame_56 : decode cX12_shame 56 = .ok (.istore_n 2, 1) := by decide +kernel
theorem dX12_shame_57 : decode cX12_shame 57 = .ok (.iload_n 2, 1) := by decide +kernel
theorem dX12_shame_58 : decode cX12_shame 58 = .ok (.sipush 837, 3) := by decide +kernel
theorem dX12_shame_61 : decode cX12_shame 61 = .ok (.if_icmp .ge 29, 3) := by decide +kernel
theorem dX12_shame_64 : decode cX12_shame 64 = .ok (.aload_n 0, 1) := by decide +kernel
theorem dX12_shame_65 : decode cX12_shame 65 = .ok (.getfield 13, 3) := by decide +kernel
theorem dX12_shame_68 : decode cX12_shame 68 = .ok (.sipush 427, 3) := by decide +kernel
theorem dX12_shame_71 : decode cX12_shame 71 = .ok (.iload_n 2, 1) := by decide +kernel
theorem dX12_shame_72 : decode cX12_shame 72 = .ok (.iadd, 1) := by decide +kernel
theorem dX12_shame_73 : decode cX12_shame 73 = .ok (.aload_n 0, 1) := by decide +kernel
theorem dX12_shame_74 : decode cX12_shame 74 = .ok (.getfield 13, 3) := by decide +kernel
theorem dX12_shame_77 : decode cX12_shame 77 = .ok (.sipush 1264, 3) := by decide +kernel
theorem dX12_shame_80 : decode cX12_shame 80 = .ok (.iload_n 2, 1) := by decide +kernel
theorem dX12_shame_81 : decode cX12_shame 81 = .ok (.iadd, 1) := by decide +kernel
theorem dX12_shame_82 : decode cX12_shame 82 = .ok (.iaload, 1) := by decide +kernel
theorem dX12_shame_83 : decode cX12_shame 83 = .ok (.iastore, 1) := by decide +kernel
theorem dX12_shame_84 : decode cX12_shame 84 = .ok (.iinc 2 1, 3) := by decide +kernel
theorem dX12_shame_87 : decode cX12_shame 87 = .ok (.goto (-30), 3) := by decide +kernel
theorem dX12_shame_90 : decode cX12_shame 90 = .ok (.aload_n 0, 1) := by decide +kernel
theorem dX12_shame_91 : decode cX12_shame 91 = .ok (.getfield 13, 3) := by decide +kernel
theorem dX12_shame_94 : decode cX12_shame 94 = .ok (.iconst 4, 1) := by decide +kernel
theorem dX12_shame_95 : decode cX12_shame 95 = .ok (.iconst 1, 1) := by decide +kernel
theorem dX12_shame_96 : decode cX12_shame 96 = .ok (.iastore, 1) := by decide +kernel
theorem dX12_shame_97 : decode cX12_shame 97 = .ok (.iload_n 1, 1) := by decide +kernel
theorem dX12_shame_98 : decode cX12_shame 98 = .ok (.ireturn, 1) := by decide +kernel
set_option maxRecDepth 20000 in
theorem kb_190_0 : ∀ q ∈ tb_190_0, s_atx 190 yX12_shame cX12_shame q.1 q.2 := (List.forall_mem_cons.mpr ⟨⟨s_ldAn dX12_shame_0 rfl, s_mo_ldA _ _⟩, (List.forall_mem_cons.mpr ⟨⟨s_iconst dX12_shame_1 (by decide +kernel), s_mo_push _ _⟩, (List.forall_mem_cons.mpr ⟨⟨s_putI (ci := 8) (k := 0) rfl (by decide) inX12 tyX12_ok nmX12 rfl rfl w_1221 dX12_shame_2, s_mo_putI _ _ _⟩, (List.forall_mem_cons.mpr ⟨⟨s_ldAn dX12_shame_5 rfl, s_mo_ldA _ _⟩, (List.forall_mem_cons.mpr ⟨⟨s_iconst dX12_shame_6 (by decide +kernel), s_mo_push _ _⟩, (List.forall_mem_cons.mpr ⟨⟨s_sV mk_190 mk_188 ok_188 (by decide +kernel) dX12_shame_7 w_1327 w_1329 wp_25 (Or.inr ⟨8, _, _, rfl, rfl⟩), s_h0 mk_190⟩, (List.forall_mem_cons.mpr ⟨⟨s_stIn dX12_shame_10 rfl, s_mo_stI _ _⟩, (List.forall_mem_cons.mpr ⟨⟨s_ldAn dX12_shame_11 rfl, s_mo_ldA _ _⟩, (List.forall_mem_cons.mpr ⟨⟨s_ldIn dX12_shame_12 rfl, s_mo_ldI _ _⟩, (List.forall_mem_cons.mpr ⟨⟨s_ifge dX12_shame_13 (by decide), s_mo_ifge _ _⟩, (List.forall_mem_cons.mpr ⟨⟨s_ldAn dX12_shame_16 rfl, s_mo_ldA _ _⟩, (List.forall_mem_cons.mpr ⟨⟨s_getf (ci := 8) (k := 11) rfl (by decide) inX12 w_1232 dX12_shame_17, s_mo_getf _ _ _⟩, (List.forall_mem_cons.mpr ⟨⟨s_goto dX12_shame_20 (by decide), s_mo_goto _⟩, (List.forall_mem_cons.mpr ⟨⟨s_iconst dX12_shame_23 (by decide +kernel), s_mo_push _ _⟩, (List.forall_mem_cons.mpr ⟨⟨s_putI (ci := 8) (k := 13) rfl (by decide) inX12 tyX12_ok nmX12 rfl rfl w_1234 dX12_shame_24, s_mo_putI _ _ _⟩, (List.forall_mem_cons.mpr ⟨⟨s_ldAn dX12_shame_27 rfl, s_mo_ldA _ _⟩, (List.forall_mem_cons.mpr ⟨⟨s_ldIn dX12_shame_28 rfl, s_mo_ldI _ _⟩, (List.forall_mem_cons.mpr ⟨⟨s_ifge dX12_shame_29 (by decide), s_mo_ifge _ _⟩, (List.forall_mem_cons.mpr ⟨⟨s_iconst dX12_shame_32 (by decide +kernel), s_mo_push _ _⟩, (List.forall_mem_cons.mpr ⟨⟨s_goto dX12_shame_33 (by decide), s_mo_goto _⟩, (List.forall_mem_cons.mpr ⟨⟨s_iconst dX12_shame_36 (by decide +kernel), s_mo_push _ _⟩, (List.forall_mem_cons.mpr ⟨⟨s_iconst dX12_shame_37 (by decide +kernel), s_mo_push _ _⟩, (List.forall_mem_cons.mpr ⟨⟨s_sV mk_190 mk_149 ok_149 (by decide +kernel) dX12_shame_38 w_1438 w_1440 wp_47 (Or.inr ⟨8, _, _, rfl, rfl⟩), s_h0 mk_190⟩, (List.forall_mem_cons.mpr ⟨⟨s_ifeq dX12_shame_41 (by decide), s_mo_ifeq _ _⟩, (List.forall_mem_cons.mpr ⟨⟨s_iconst dX12_shame_44 (by decide +kernel), s_mo_push _ _⟩, (List.forall_mem_cons.mpr ⟨s_r1 mk_190 dX12_shame_45, (List.forall_mem_cons.mpr ⟨⟨s_ldAn dX12_shame_46 rfl, s_mo_ldA _ _⟩, (List.forall_mem_cons.mpr ⟨⟨s_getf (ci := 8) (k := 1) rfl (by decide) inX12 w_1222 dX12_shame_47, s_mo_getf _ _ _⟩, (List.forall_mem_cons.mpr ⟨⟨s_sipush dX12_shame_50 (by decide +kernel), s_mo_push _ _⟩, (List.forall_mem_cons.mpr ⟨⟨s_ldIn dX12_shame_53 rfl, s_mo_ldI _ _⟩, (List.forall_mem_cons.mpr ⟨⟨s_iast dX12_shame_54, s_mo_iast _⟩, (List.forall_mem_cons.mpr ⟨⟨s_iconst dX12_shame_55 (by decide +kernel), s_mo_push _ _⟩, (List.forall_mem_cons.mpr ⟨⟨s_stIn dX12_shame_56 rfl, s_mo_stI _ _⟩, (List.forall_mem_cons.mpr ⟨⟨s_ldIn dX12_shame_57 rfl, s_mo_ldI _ _⟩, (List.forall_mem_cons.mpr ⟨⟨s_sipush dX12_shame_58 (by decide +kernel), s_mo_push _ _⟩, (List.forall_mem_cons.mpr ⟨⟨s_icge dX12_shame_61 (by decide), s_mo_icge _ _⟩, (fun _ h => absurd h List.not_mem_nil)⟩)⟩)⟩)⟩)⟩)⟩)⟩)⟩)⟩)⟩)⟩)⟩)⟩)⟩)⟩)⟩)⟩)⟩)⟩)⟩)⟩)⟩)⟩)⟩)⟩)⟩)⟩)⟩)⟩)⟩)⟩)⟩)⟩)⟩)⟩)⟩)
set_option maxRecDepth 20000 in
theorem kb_190_1 : ∀ q ∈ tb_190_1, s_atx 190 yX12_shame cX12_shame q.1 q.2 := (List.forall_mem_cons.mpr ⟨⟨s_ldAn dX12_shame_64 rfl, s_mo_ldA _ _⟩, (List.forall_mem_cons.mpr ⟨⟨s_getf (ci := 8) (k := 1) rfl (by decide) inX12 w_1222 dX12_shame_65, s_mo_getf _ _ _⟩, (List.forall_mem_cons.mpr ⟨⟨s_sipush dX12_shame_68 (by decide +kernel), s_mo_push _ _⟩, (List.forall_mem_cons.mpr ⟨⟨s_ldIn dX12_shame_71 rfl, s_mo_ldI _ _⟩, (List.forall_mem_cons.mpr ⟨⟨s_iadd dX12_shame_72, s_mo_bin _ _⟩, (List.forall_mem_cons.mpr ⟨⟨s_ldAn dX12_shame_73 rfl, s_mo_ldA _ _⟩, (List.forall_mem_cons.mpr ⟨⟨s_getf (ci := 8) (k := 1) rfl (by decide) inX12 w_1222 dX12_shame_74, s_mo_getf _ _ _⟩, (List.forall_mem_cons.mpr ⟨⟨s_sipush dX12_shame_77 (by decide +kernel), s_mo_push _ _⟩, (List.forall_mem_cons.mpr ⟨⟨s_ldIn dX12_shame_80 rfl, s_mo_ldI _ _⟩, (List.forall_mem_cons.mpr ⟨⟨s_iadd dX12_shame_81, s_mo_bin _ _⟩, (List.forall_mem_cons.mpr ⟨⟨s_iald dX12_shame_82, s_mo_iald _⟩, (List.forall_mem_cons.mpr ⟨⟨s_iast dX12_shame_83, s_mo_iast _⟩, (List.forall_mem_cons.mpr ⟨⟨s_inc dX12_shame_84 (by decide +kernel), s_mo_inc _ _ _⟩, (List.forall_mem_cons.mpr ⟨⟨s_goto dX12_shame_87 (by decide), s_mo_goto _⟩, (List.forall_mem_cons.mpr ⟨⟨s_ldAn dX12_shame_90 rfl, s_mo_ldA _ _⟩, (List.forall_mem_cons.mpr ⟨⟨s_getf (ci := 8) (k := 1) rfl (by decide) inX12 w_1222 dX12_shame_91, s_mo_getf _ _ _⟩, (List.forall_mem_cons.mpr ⟨⟨s_iconst dX12_shame_94 (by decide +kernel), s_mo_push _ _⟩, (List.forall_mem_cons.mpr ⟨⟨s_iconst dX12_shame_95 (by decide +kernel), s_mo_push _ _⟩, (List.forall_mem_cons.mpr ⟨⟨s_iast dX12_shame_96, s_mo_iast _⟩, (List.forall_mem_cons.mpr ⟨⟨s_ldIn dX12_shame_97 rfl, s_mo_ldI _ _⟩, (List.forall_mem_cons.mpr ⟨s_r1 mk_190 dX12_shame_98, (fun _ h => absurd h List.not_mem_nil)⟩)⟩)⟩)⟩)⟩)⟩)⟩)⟩)⟩)⟩)⟩)⟩)⟩)⟩)⟩)⟩)⟩)⟩)⟩)⟩)⟩)
theorem km_190 : ∀ t ∈ tm_190, s_tok 190 t := (List.forall_mem_cons.mpr ⟨s_lift mk_190 kb_190_0, (List.forall_mem_cons.mpr ⟨s_lift mk_190 kb_190_1, (fun _ h => absurd h List.not_mem_nil)⟩)⟩)
theorem dX12_sun_0 : decode cX12_sun 0 = .ok (.iload_n 0, 1) := by decide +kernel
theorem dX12_sun_1 : decode cX12_sun 1 = .ok (.bipush 6, 2) := by decide +kernel
theorem dX12_sun_3 : decode cX12_sun 3 = .ok (.bipush 18, 2) := by decide +kernel
theorem dX12_sun_5 : decode cX12_sun 5 = .ok (.invokestatic 84, 3) := by decide +kernel
theorem dX12_sun_8 : decode cX12_sun 8 = .ok (.ifCond .eq 19, 3) := by decide +kernel
theorem dX12_sun_11 : decode cX12_sun 11 = .ok (.bipush 100, 2) := by decide +kernel
theorem dX12_sun_13 : decode cX12_sun 13 = .ok (.bipush 12, 2) := by decide +kernel
theorem dX12_sun_15 : decode cX12_sun 15 = .ok (.iload_n 0, 1) := by decide +kernel
theorem dX12_sun_16 : decode cX12_sun 16 = .ok (.bipush 12, 2) := by decide +kernel
theorem dX12_sun_18 : decode cX12_sun 18 = .ok (.isub, 1) := by decide +kernel
theorem dX12_sun_19 : decode cX12_sun 19 = .ok (.invokestatic 237, 3) := by decide +kernel
theorem dX12_sun_22 : decode cX12_sun 22 = .ok (.imul, 1) := by decide +kernel
theorem dX12_sun_23 : decode cX12_sun 23 = .ok (.isub, 1) := by decide +kernel
theorem dX12_sun_24 : decode cX12_sun 24 = .ok (.goto 4, 3) := by decide +kernel
theorem dX12_sun_27 : decode cX12_sun 27 = .ok (.iconst 0, 1) := by decide +kernel
theorem dX12_sun_28 : decode cX12_sun 28 = .ok (.ireturn, 1) := by decide +kernel
set_option maxRecDepth 20000 in
theorem kb_191_0 : ∀ q ∈ tb_191_0, s_atx 191 yX12_sun cX12_sun q.1 q.2 := (List.forall_mem_cons.mpr ⟨⟨s_ldIn dX12_sun_0 rfl, s_mo_ldI _ _⟩, (List.forall_mem_cons.mpr ⟨⟨s_bipush dX12_sun_1 (by decide +kernel), s_mo_push _ _⟩, (List.forall_mem_cons.mpr ⟨⟨s_bipush dX12_sun_3 (by decide +kernel), s_mo_push _ _⟩, (List.forall_mem_cons.mpr ⟨⟨s_sS mk_191 mk_150 ok_150 (by decide +kernel) dX12_sun_5 w_1458 w_1459, s_h0 mk_191⟩, (List.forall_mem_cons.mpr ⟨⟨s_ifeq dX12_sun_8 (by decide), s_mo_ifeq _ _⟩, (List.forall_mem_cons.mpr ⟨⟨s_bipush dX12_sun_11 (by decide +kernel), s_mo_push _ _⟩, (List.forall_mem_cons.mpr ⟨⟨s_bipush dX12_sun_13 (by decide +kernel), s_mo_push _ _⟩, (List.forall_mem_cons.mpr ⟨⟨s_ldIn dX12_sun_15 rfl, s_mo_ldI _ _⟩, (List.forall_mem_cons.mpr ⟨⟨s_bipush dX12_sun_16 (by decide +kernel), s_mo_push _ _⟩, (List.forall_mem_cons.mpr ⟨⟨s_isub dX12_sun_18, s_mo_bin _ _⟩, (List.forall_mem_cons.mpr ⟨⟨s_mb w_1536 ws_mb w_mi wc_mb dX12_sun_19, s_mo_mb _⟩, (List.forall_mem_cons.mpr ⟨⟨s_imul dX12_sun_22, s_mo_bin _ _⟩, (List.forall_mem_cons.mpr ⟨⟨s_isub dX12_sun_23, s_mo_bin _ _⟩, (List.forall_mem_cons.mpr ⟨⟨s_goto dX12_sun_24 (by decide), s_mo_goto _⟩, (List.forall_mem_cons.mpr ⟨⟨s_iconst dX12_sun_27 (by decide +kernel), s_mo_push _ _⟩, (List.forall_mem_cons.mpr ⟨s_r1 mk_191 dX12_sun_28, (fun _ h => absurd h List.not_mem_nil)⟩)⟩)⟩)⟩)⟩)⟩)⟩)⟩)⟩)⟩)⟩)⟩)⟩)⟩)⟩)⟩)
theorem km_191 : ∀ t ∈ tm_191, s_tok 191 t := (List.forall_mem_cons.mpr ⟨s_lift mk_191 kb_191_0, (fun _ h => absurd h List.not_mem_nil)⟩)
theorem dX12_bears_0 : decode cX12_bears 0 = .ok (.aload_n 0, 1) := by decide +kernel
theorem dX12_bears_1 : decode cX12_bears 1 = .ok (.iload_n 1, 1) := by decide +kernel
theorem dX12_bears_2 : decode cX12_bears 2 = .ok (.invokevirtual 243, 3) := by decide +kernel
theorem dX12_bears_5 : decode cX12_bears 5 = .ok (.ifCond .eq 7, 3) := by decide +kernel
theorem dX12_bears_8 : decode cX12_bears 8 = .ok (.iconst 0, 1) := by decide +kernel
theorem dX12_bears_9 : decode cX12_bears 9 = .ok (.goto 44, 3) := by decide +kernel
theorem dX12_bears_12 : decode cX12_bears 12 = .ok (.iconst 0, 1) := by decide +kernel
theorem dX12_bears_13 : decode cX12_bears 13 = .ok (.bipush 10, 2) := by decide +kernel
theorem dX12_bears_15 : decode cX12_bears 15 = .ok (.aload_n 0, 1) := by decide +kernel
theorem dX12_bears_16 : decode cX12_bears 16 = .ok (.iload_n 1, 1) := by decide +kernel
theorem dX12_bears_17 : decode cX12_bears 17 = .ok (.iconst 0, 1) := by decide +kernel
theorem dX12_bears_18 : decode cX12_bears 18 = .ok (.invokevirtual 88, 3) := by decide +kernel
theorem dX12_bears_21 : decode cX12_bears 21 = .ok (.imul, 1) := by decide +kernel
theorem dX12_bears_22 : decode cX12_bears 22 = .ok (.aload_n 0, 1) := by decide +kernel
theorem dX12_bears_23 : decode cX12_bears 23 = .ok (.iload_n 1, 1) := by decide +kernel
theorem dX12_bears_24 : decode cX12_bears 24 = .ok (.iconst 0, 1) := by decide +kernel
theorem dX12_bears_25 : decode cX12_bears 25 = .ok (.invokevirtual 88, 3) := by decide +kernel
theorem dX12_bears_28 : decode cX12_bears 28 = .ok (.imul, 1) := by decide +kernel
theorem dX12_bears_29 : decode cX12_bears 29 = .ok (.bipush 30, 2) := by decide +kernel
theorem dX12_bears_31 : decode cX12_bears 31 = .ok (.aload_n 0, 1) := by decide +kernel
theorem dX12_bears_32 : decode cX12_bears 32 = .ok (.iload_n 1, 1) := by decide +kernel
theorem dX12_bears_33 : decode cX12_bears 33 = .ok (.iconst 3, 1) := by decide +kernel
theorem dX12_bears_34 : decode cX12_bears 34 = .ok (.invokevirtual 88, 3) := by decide +kernel
theorem dX12_bears_37 : decode cX12_bears 37 = .ok (.imul, 1) := by decide +kernel
theorem dX12_bears_38 : decode cX12_bears 38 = .ok (.isub, 1) := by decide +kernel
theorem dX12_bears_39 : decode cX12_bears 39 = .ok (.iconst 0, 1) := by decide +kernel
theorem dX12_bears_40 : decode cX12_bears 40 = .ok (.aload_n 0, 1) := by decide +kernel
theorem dX12_bears_41 : decode cX12_bears 41 = .ok (.iload_n 1, 1) := by decide +kernel
theorem dX12_bears_42 : decode cX12_bears 42 = .ok (.iconst 1, 1) := by decide +kernel
theorem dX12_bears_43 : decode cX12_bears 43 = .ok (.invokevirtual 88, 3) := by decide +kernel
theorem dX12_bears_46 : decode cX12_bears 46 = .ok (.invokestatic 246, 3) := by decide +kernel
theorem dX12_bears_49 : decode cX12_bears 49 = .ok (.iadd, 1) := by decide +kernel
theorem dX12_bears_50 : decode cX12_bears 50 = .ok (.invokestatic 249, 3) := by decide +kernel
theorem dX12_bears_53 : decode cX12_bears 53 = .ok (.ireturn, 1) := by decide +kernel
set_option maxRecDepth 20000 in
theorem kb_192_0 : ∀ q ∈ tb_192_0, s_atx 192 yX12_bears cX12_bears q.1 q.2 := (List.forall_mem_cons.mpr ⟨⟨s_ldAn dX12_bears_0 rfl, s_mo_ldA _ _⟩, (List.forall_mem_cons.mpr ⟨⟨s_ldIn dX12_bears_1 rfl, s_mo_ldI _ _⟩, (List.forall_mem_cons.mpr ⟨⟨s_sV mk_192 mk_162 ok_162 (by decide +kernel) dX12_bears_2 w_1465 w_1467 wp_51 (Or.inr ⟨8, _, _, rfl, rfl⟩), s_h0 mk_192⟩, (List.forall_mem_cons.mpr ⟨⟨s_ifeq dX12_bears_5 (by decide), s_mo_ifeq _ _⟩, (List.forall_mem_cons.mpr ⟨⟨s_iconst dX12_bears_8 (by decide +kernel), s_mo_push _ _⟩, (List.forall_mem_cons.mpr ⟨⟨s_goto dX12_bears_9 (by decide), s_mo_goto _⟩, (List.forall_mem_cons.mpr ⟨⟨s_iconst dX12_bears_12 (by decide +kernel), s_mo_push _ _⟩, (List.forall_mem_cons.mpr ⟨⟨s_bipush dX12_bears_13 (by decide +kernel), s_mo_push _ _⟩, (List.forall_mem_cons.mpr ⟨⟨s_ldAn dX12_bears_15 rfl, s_mo_ldA _ _⟩, (List.forall_mem_cons.mpr ⟨⟨s_ldIn dX12_bears_16 rfl, s_mo_ldI _ _⟩, (List.forall_mem_cons.mpr ⟨⟨s_iconst dX12_bears_17 (by decide +kernel), s_mo_push _ _⟩, (List.forall_mem_cons.mpr ⟨⟨s_sV mk_192 mk_158 ok_158 (by decide +kernel) dX12_bears_18 w_1469 w_1471 wp_52 (Or.inr ⟨8, _, _, rfl, rfl⟩), s_h0 mk_192⟩, (List.forall_mem_cons.mpr ⟨⟨s_imul dX12_bears_21, s_mo_bin _ _⟩, (List.forall_mem_cons.mpr ⟨⟨s_ldAn dX12_bears_22 rfl, s_mo_ldA _ _⟩, (List.forall_mem_cons.mpr ⟨⟨s_ldIn dX12_bears_23 rfl, s_mo_ldI _ _⟩, (List.forall_mem_cons.mpr ⟨⟨s_iconst dX12_bears_24 (by decide +kernel), s_mo_push _ _⟩, (List.forall_mem_cons.mpr ⟨⟨s_sV mk_192 mk_158 ok_158 (by decide +kernel) dX12_bears_25 w_1469 w_1471 wp_52 (Or.inr ⟨8, _, _, rfl, rfl⟩), s_h0 mk_192⟩, (List.forall_mem_cons.mpr ⟨⟨s_imul dX12_bears_28, s_mo_bin _ _⟩, (List.forall_mem_cons.mpr ⟨⟨s_bipush dX12_bears_29 (by decide +kernel), s_mo_push _ _⟩, (List.forall_mem_cons.mpr ⟨⟨s_ldAn dX12_bears_31 rfl, s_mo_ldA _ _⟩, (List.forall_mem_cons.mpr ⟨⟨s_ldIn dX12_bears_32 rfl, s_mo_ldI _ _⟩, (List.forall_mem_cons.mpr ⟨⟨s_iconst dX12_bears_33 (by decide +kernel), s_mo_push _ _⟩, (List.forall_mem_cons.mpr ⟨⟨s_sV mk_192 mk_158 ok_158 (by decide +kernel) dX12_bears_34 w_1469 w_1471 wp_52 (Or.inr ⟨8, _, _, rfl, rfl⟩), s_h0 mk_192⟩, (List.forall_mem_cons.mpr ⟨⟨s_imul dX12_bears_37, s_mo_bin _ _⟩, (List.forall_mem_cons.mpr ⟨⟨s_isub dX12_bears_38, s_mo_bin _ _⟩, (List.forall_mem_cons.mpr ⟨⟨s_iconst dX12_bears_39 (by decide +kernel), s_mo_push _ _⟩, (List.forall_mem_cons.mpr ⟨⟨s_ldAn dX12_bears_40 rfl, s_mo_ldA _ _⟩, (List.forall_mem_cons.mpr ⟨⟨s_ldIn dX12_bears_41 rfl, s_mo_ldI _ _⟩, (List.forall_mem_cons.mpr ⟨⟨s_iconst dX12_bears_42 (by decide +kernel), s_mo_push _ _⟩, (List.forall_mem_cons.mpr ⟨⟨s_sV mk_192 mk_158 ok_158 (by decide +kernel) dX12_bears_43 w_1469 w_1471 wp_52 (Or.inr ⟨8, _, _, rfl, rfl⟩), s_h0 mk_192⟩, (List.forall_mem_cons.mpr ⟨⟨s_mn w_1473 ws_mn w_mi wc_mn dX12_bears_46, s_mo_mn _⟩, (List.forall_mem_cons.mpr ⟨⟨s_iadd dX12_bears_49, s_mo_bin _ _⟩, (List.forall_mem_cons.mpr ⟨⟨s_mx w_1474 ws_mx w_mi wc_mx dX12_bears_50, s_mo_mx _⟩, (List.forall_mem_cons.mpr ⟨s_r1 mk_192 dX12_bears_53, (fun _ h => absurd h List.not_mem_nil)⟩)⟩)⟩)⟩)⟩)⟩)⟩)⟩)⟩)⟩)⟩)⟩)⟩)⟩)⟩)⟩)⟩)⟩)⟩)⟩)⟩)⟩)⟩)⟩)⟩)⟩)⟩)⟩)⟩)⟩)⟩)⟩)⟩)⟩)
theorem km_192 : ∀ t ∈ tm_192, s_tok 192 t := (List.forall_mem_cons.mpr ⟨s_lift mk_192 kb_192_0, (fun _ h => absurd h List.not_mem_nil)⟩)
theorem dX12_ofCart_0 : decode cX12_ofCart 0 = .ok (.aload_n 0, 1) := by decide +kernel
theorem dX12_ofCart_1 : decode cX12_ofCart 1 = .ok (.getfield 13, 3) := by decide +kernel
theorem dX12_ofCart_4 : decode cX12_ofCart 4 = .ok (.sipush 187, 3) := by decide +kernel
theorem dX12_ofCart_7 : decode cX12_ofCart 7 = .ok (.iconst 5, 1) := by decide +kernel
theorem dX12_ofCart_8 : decode cX12_ofCart 8 = .ok (.iload_n 1, 1) := by decide +kernel
theorem dX12_ofCart_9 : decode cX12_ofCart 9 = .ok (.imul, 1) := by decide +kernel
theorem dX12_ofCart_10 : decode cX12_ofCart 10 = .ok (.iadd, 1) := by decide +kernel
theorem dX12_ofCart_11 : decode cX12_ofCart 11 = .ok (.iload_n 2, 1) := by decide +kernel
theorem dX12_ofCart_12 : decode cX12_ofCart 12 = .ok (.iadd, 1) := by decide +kernel
theorem dX12_ofCart_13 : decode cX12_ofCart 13 = .ok (.iaload, 1) := by decide +kernel
theorem dX12_ofCart_14 : decode cX12_ofCart 14 = .ok (.ireturn, 1) := by decide +kernel
set_option maxRecDepth 20000 in
theorem kb_193_0 : ∀ q ∈ tb_193_0, s_atx 193 yX12_ofCart cX12_ofCart q.1 q.2 := (List.forall_mem_cons.mpr ⟨⟨s_ldAn dX12_ofCart_0 rfl, s_mo_ldA _ _⟩, (List.forall_mem_cons.mpr ⟨⟨s_getf (ci := 8) (k := 1) rfl (by decide) inX12 w_1222 dX12_ofCart_1, s_mo_getf _ _ _⟩, (List.forall_mem_cons.mpr ⟨⟨s_sipush dX12_ofCart_4 (by decide +kernel), s_mo_push _ _⟩, (List.forall_mem_cons.mpr ⟨⟨s_iconst dX12_ofCart_7 (by decide +kernel), s_mo_push _ _⟩, (List.forall_mem_cons.mpr ⟨⟨s_ldIn dX12_ofCart_8 rfl, s_mo_ldI _ _⟩, (List.forall_mem_cons.mpr ⟨⟨s_imul dX12_ofCart_9, s_mo_bin _ _⟩, (List.forall_mem_cons.mpr ⟨⟨s_iadd dX12_ofCart_10, s_mo_bin _ _⟩, (List.forall_mem_cons.mpr ⟨⟨s_ldIn dX12_ofCart_11 rfl, s_mo_ldI _ _⟩, (List.forall_mem_cons.mpr ⟨⟨s_iadd dX12_ofCart_12, s_mo_bin _ _⟩, (List.forall_mem_cons.mpr ⟨⟨s_iald dX12_ofCart_13, s_mo_iald _⟩, (List.forall_mem_cons.mpr ⟨s_r1 mk_193 dX12_ofCart_14, (fun _ h => absurd h List.not_mem_nil)⟩)⟩)⟩)⟩)⟩)⟩)⟩)⟩)⟩)⟩)⟩)
theorem km_193 : ∀ t ∈ tm_193, s_tok 193 t := (List.forall_mem_cons.mpr ⟨s_lift mk_193 kb_193_0, (fun _ h => absurd h List.not_mem_nil)⟩)
theorem dX12_isThen_0 : decode cX12_isThen 0 = .ok (.iload_n 1, 1) := by decide +kernel
theorem dX12_isThen_1 : decode cX12_isThen 1 = .ok (.iload_n 2, 1) := by decide +kernel
theorem dX12_isThen_2 : decode cX12_isThen 2 = .ok (.if_icmp .gt 12, 3) := by decide +kernel
theorem dX12_isThen_5 : decode cX12_isThen 5 = .ok (.iload_n 0, 1) := by decide +kernel
theorem dX12_isThen_6 : decode cX12_isThen 6 = .ok (.iload_n 1, 1) := by decide +kernel
theorem dX12_isThen_7 : decode cX12_isThen 7 = .ok (.iload_n 2, 1) := by decide +kernel
theorem dX12_isThen_8 : decode cX12_isThen 8 = .ok (.invokestatic 84, 3) := by decide +kernel
theorem dX12_isThen_11 : decode cX12_isThen 11 = .ok (.goto 18, 3) := by decide +kernel
theorem dX12_isThen_14 : decode cX12_isThen 14 = .ok (.iload_n 0, 1) := by decide +kernel
theorem dX12_isThen_15 : decode cX12_isThen 15 = .ok (.iload_n 1, 1) := by decide +kernel
theorem dX12_isThen_16 : decode cX12_isThen 16 = .ok (.if_icmp .ge 8, 3) := by decide +kernel
theorem dX12_isThen_19 : decode cX12_isThen 19 = .ok (.iload_n 0, 1) := by decide +kernel
theorem dX12_isThen_20 : decode cX12_isThen 20 = .ok (.iload_n 2, 1) := by decide +kernel
theorem dX12_isThen_21 : decode cX12_isThen 21 = .ok (.if_icmp .gt 7, 3) := by decide +kernel
theorem dX12_isThen_24 : decode cX12_isThen 24 = .ok (.iconst 1, 1) := by decide +kernel
theorem dX12_isThen_25 : decode cX12_isThen 25 = .ok (.goto 4, 3) := by decide +kernel
theorem dX12_isThen_28 : decode cX12_isThen 28 = .ok (.iconst 0, 1) := by decide +kernel
theorem dX12_isThen_29 : decode cX12_isThen 29 = .ok (.ireturn, 1) := by decide +kernel
set_option maxRecDepth 20000 in
theorem kb_194_0 : ∀ q ∈ tb_194_0, s_atx 194 yX12_isThen cX12_isThen q.1 q.2 := (List.forall_mem_cons.mpr ⟨⟨s_ldIn dX12_isThen_0 rfl, s_mo_ldI _ _⟩, (List.forall_mem_cons.mpr ⟨⟨s_ldIn dX12_isThen_1 rfl, s_mo_ldI _ _⟩, (List.forall_mem_cons.mpr ⟨⟨s_icgt dX12_isThen_2 (by decide), s_mo_icgt _ _⟩, (List.forall_mem_cons.mpr ⟨⟨s_ldIn dX12_isThen_5 rfl, s_mo_ldI _ _⟩, (List.forall_mem_cons.mpr ⟨⟨s_ldIn dX12_isThen_6 rfl, s_mo_ldI _ _⟩, (List.forall_mem_cons.mpr ⟨⟨s_ldIn dX12_isThen_7 rfl, s_mo_ldI _ _⟩, (List.forall_mem_cons.mpr ⟨⟨s_sS mk_194 mk_150 ok_150 (by decide +kernel) dX12_isThen_8 w_1458 w_1459, s_h0 mk_194⟩, (List.forall_mem_cons.mpr ⟨⟨s_goto dX12_isThen_11 (by decide), s_mo_goto _⟩, (List.forall_mem_cons.mpr ⟨⟨s_ldIn dX12_isThen_14 rfl, s_mo_ldI _ _⟩, (List.forall_mem_cons.mpr ⟨⟨s_ldIn dX12_isThen_15 rfl, s_mo_ldI _ _⟩, (List.forall_mem_cons.mpr ⟨⟨s_icge dX12_isThen_16 (by decide), s_mo_icge _ _⟩, (List.forall_mem_cons.mpr ⟨⟨s_ldIn dX12_isThen_19 rfl, s_mo_ldI _ _⟩, (List.forall_mem_cons.mpr ⟨⟨s_ldIn dX12_isThen_20 rfl, s_mo_ldI _ _⟩, (List.forall_mem_cons.mpr ⟨⟨s_icgt dX12_isThen_21 (by decide), s_mo_icgt _ _⟩, (List.forall_mem_cons.mpr ⟨⟨s_iconst dX12_isThen_24 (by decide +kernel), s_mo_push _ _⟩, (List.forall_mem_cons.mpr ⟨⟨s_goto dX12_isThen_25 (by decide), s_mo_goto _⟩, (List.forall_mem_cons.mpr ⟨⟨s_iconst dX12_isThen_28 (by decide +kernel), s_mo_push _ _⟩, (List.forall_mem_cons.mpr ⟨s_r2 mk_194 dX12_isThen_29, (fun _ h => absurd h List.not_mem_nil)⟩)⟩)⟩)⟩)⟩)⟩)⟩)⟩)⟩)⟩)⟩)⟩)⟩)⟩)⟩)⟩)⟩)⟩)
theorem km_194 : ∀ t ∈ tm_194, s_tok 194 t := (List.forall_mem_cons.mpr ⟨s_lift mk_194 kb_194_0, (fun _ h => absurd h List.not_mem_nil)⟩)
theorem dX12_loadAt_0 : decode cX12_loadAt 0 = .ok (.iconst 0, 1) := by decide +kernel
theorem dX12_loadAt_1 : decode cX12_loadAt 1 = .ok (.istore_n 3, 1) := by decide +kernel
theorem dX12_loadAt_2 : decode cX12_loadAt 2 = .ok (.iconst 0, 1) := by decide +kernel
theorem dX12_loadAt_3 : decode cX12_loadAt 3 = .ok (.istore 4, 2) := by decide +kernel
theorem dX12_loadAt_5 : decode cX12_loadAt 5 = .ok (.iload 4, 2) := by decide +kernel
theorem dX12_loadAt_7 : decode cX12_loadAt 7 = .ok (.aload_n 0, 1) := by decide +kernel
theorem dX12_loadAt_8 : decode cX12_loadAt 8 = .ok (.getfield 13, 3) := by decide +kernel
theorem dX12_loadAt_11 : decode cX12_loadAt 11 = .ok (.iconst 2, 1) := by decide +kernel
theorem dX12_loadAt_12 : decode cX12_loadAt 12 = .ok (.iaload, 1) := by decide +kernel
theorem dX12_loadAt_13 : decode cX12_loadAt 13 = .ok (.if_icmp .ge 65, 3) := by decide +kernel
theorem dX12_loadAt_16 : decode cX12_loadAt 16 = .ok (.iload_n 3, 1) := by decide +kernel
theorem dX12_loadAt_17 : decode cX12_loadAt 17 = .ok (.aload_n 0, 1) := by decide +kernel
theorem dX12_loadAt_18 : decode cX12_loadAt 18 = .ok (.iload 4, 2) := by decide +kernel
theorem dX12_loadAt_20 : decode cX12_loadAt 20 = .ok (.iconst 1, 1) := by decide +kernel
theorem dX12_loadAt_21 : decode cX12_loadAt 21 = .ok (.invokevirtual 252, 3) := by decide +kernel
theorem dX12_loadAt_24 : decode cX12_loadAt 24 = .ok (.iload_n 1, 1) := by decide +kernel
theorem dX12_loadAt_25 : decode cX12_loadAt 25 = .ok (.if_icmp .ne 44, 3) := by decide +kernel
theorem dX12_loadAt_28 : decode cX12_loadAt 28 = .ok (.iload_n 2, 1) := by decide +kernel
theorem dX12_loadAt_29 : decode cX12_loadAt 29 = .ok (.aload_n 0, 1) := by decide +kernel
theorem dX12_loadAt_30 : decode cX12_loadAt 30 = .ok (.iload 4, 2) := by decide +kernel
theorem dX12_loadAt_32 : decode cX12_loadAt 32 = .ok (.iconst 2, 1) := by decide +kernel
theorem dX12_loadAt_33 : decode cX12_loadAt 33 = .ok (.invokevirtual 252, 3) := by decide +kernel
theorem dX12_loadAt_36 : decode cX12_loadAt 36 = .ok (.aload_n 0, 1) := by decide +kernel
theorem dX12_loadAt_37 : decode cX12_loadAt 37 = .ok (.iload 4, 2) := by decide +kernel
theorem dX12_loadAt_39 : decode cX12_loadAt 39 = .ok (.iconst 3, 1) := by decide +kernel
theorem dX12_loadAt_40 : decode cX12_loadAt 40 = .ok (.invokevirtual 252, 3) := by decide +kernel
theorem dX12_loadAt_43 : decode cX12_loadAt 43 = .ok (.invokestatic 255, 3) := by decide +kernel
theorem dX12_loadAt_46 : decode cX12_loadAt 46 = .ok (.ifCond .eq 23, 3) := by decide +kernel
theorem dX12_loadAt_49 : decode cX12_loadAt 49 = .ok (.aload_n 0, 1) := by decide +kernel
theorem dX12_loadAt_50 : decode cX12_loadAt 50 = .ok (.iload 4, 2) := by decide +kernel
theorem dX12_loadAt_52 : decode cX12_loadAt 52 = .ok (.iconst 0, 1) := by decide +kernel
theorem dX12_loadAt_53 : decode cX12_loadAt 53 = .ok (.invokevirtual 252, 3) := by decide +kernel
theorem dX12_loadAt_56 : decode cX12_loadAt 56 = .ok (.iconst 2, 1) := by decide +kernel
theorem dX12_loadAt_57 : decode cX12_loadAt 57 = .ok (.aload_n 0, 1) := by decide +kernel
theorem dX12_loadAt_58 : decode cX12_loadAt 58 = .ok (.iload 4, 2) := by decide +kernel
theorem dX12_loadAt_60 : decode cX12_loadAt 60 = .ok (.iconst 4, 1) := by decide +kernel
theorem dX12_loadAt_61 : decode cX12_loadAt 61 = .ok (.invokevirtual 252, 3) := by decide +kernel
theorem dX12_loadAt_64 : decode cX12_loadAt 64 = .ok (.isub, 1) := by decide +kernel
theorem dX12_loadAt_65 : decode cX12_loadAt 65 = .ok (.imul, 1) := by decide +kernel
theorem dX12_loadAt_66 : decode cX12_loadAt 66 = .ok (.goto 4, 3) := by decide +kernel
theorem dX12_loadAt_69 : decode cX12_loadAt 69 = .ok (.iconst 0, 1) := by decide +kernel
theorem dX12_loadAt_70 : decode cX12_loadAt 70 = .ok (.iadd, 1) := by decide +kernel
theorem dX12_loadAt_71 : decode cX12_loadAt 71 = .ok (.istore_n 3, 1) := by decide +kernel
theorem dX12_loadAt_72 : decode cX12_loadAt 72 = .ok (.iinc 4 1, 3) := by decide +kernel
theorem dX12_loadAt_75 : decode cX12_loadAt 75 = .ok (.goto (-70), 3) := by decide +kernel
theorem dX12_loadAt_78 : decode cX12_loadAt 78 = .ok (.iload_n 3, 1) := by decide +kernel
theorem dX12_loadAt_79 : decode cX12_loadAt 79 = .ok (.ireturn, 1) := by decide +kernel
set_option maxRecDepth 20000 in
theorem kb_195_0 : ∀ q ∈ tb_195_0, s_atx 195 yX12_loadAt cX12_loadAt q.1 q.2 := (List.forall_mem_cons.mpr ⟨⟨s_iconst dX12_loadAt_0 (by decide +kernel), s_mo_push _ _⟩, (List.forall_mem_cons.mpr ⟨⟨s_stIn dX12_loadAt_1 rfl, s_mo_stI _ _⟩, (List.forall_mem_cons.mpr ⟨⟨s_iconst dX12_loadAt_2 (by decide +kernel), s_mo_push _ _⟩, (List.forall_mem_cons.mpr ⟨⟨s_stI dX12_loadAt_3, s_mo_stI _ _⟩, (List.forall_mem_cons.mpr ⟨⟨s_ldI dX12_loadAt_5, s_mo_ldI _ _⟩, (List.forall_mem_cons.mpr ⟨⟨s_ldAn dX12_loadAt_7 rfl, s_mo_ldA _ _⟩, (List.forall_mem_cons.mpr ⟨⟨s_getf (ci := 8) (k := 1) rfl (by decide) inX12 w_1222 dX12_loadAt_8, s_mo_getf _ _ _⟩, (List.forall_mem_cons.mpr ⟨⟨s_iconst dX12_loadAt_11 (by decide +kernel), s_mo_push _ _⟩, (List.forall_mem_cons.mpr ⟨⟨s_iald dX12_loadAt_12, s_mo_iald _⟩, (List.forall_mem_cons.mpr ⟨⟨s_icge dX12_loadAt_13 (by decide), s_mo_icge _ _⟩, (List.forall_mem_cons.mpr ⟨⟨s_ldIn dX12_loadAt_16 rfl, s_mo_ldI _ _⟩, (List.forall_mem_cons.mpr ⟨⟨s_ldAn dX12_loadAt_17 rfl, s_mo_ldA _ _⟩, (List.forall_mem_cons.mpr ⟨⟨s_ldI dX12_loadAt_18, s_mo_ldI _ _⟩, (List.forall_mem_cons.mpr ⟨⟨s_iconst dX12_loadAt_20 (by decide +kernel), s_mo_push _ _⟩, (List.forall_mem_cons.mpr ⟨⟨s_sV mk_195 mk_193 ok_193 (by decide +kernel) dX12_loadAt_21 w_1479 w_1481 wp_53 (Or.inr ⟨8, _, _, rfl, rfl⟩), s_h0 mk_195⟩, (List.forall_mem_cons.mpr ⟨⟨s_ldIn dX12_loadAt_24 rfl, s_mo_ldI _ _⟩, (List.forall_mem_cons.mpr ⟨⟨s_icne dX12_loadAt_25 (by decide), s_mo_icne _ _⟩, (List.forall_mem_cons.mpr ⟨⟨s_ldIn dX12_loadAt_28 rfl, s_mo_ldI _ _⟩, (List.forall_mem_cons.mpr ⟨⟨s_ldAn dX12_loadAt_29 rfl, s_mo_ldA _ _⟩, (List.forall_mem_cons.mpr ⟨⟨s_ldI dX12_loadAt_30, s_mo_ldI _ _⟩, (List.forall_mem_cons.mpr ⟨⟨s_iconst dX12_loadAt_32 (by decide +kernel), s_mo_push _ _⟩, (List.forall_mem_cons.mpr ⟨⟨s_sV mk_195 mk_193 ok_193 (by decide +kernel) dX12_loadAt_33 w_1479 w_1481 wp_53 (Or.inr ⟨8, _, _, rfl, rfl⟩), s_h0 mk_195⟩, (List.forall_mem_cons.mpr ⟨⟨s_ldAn dX12_loadAt_36 rfl, s_mo_ldA _ _⟩, (List.forall_mem_cons.mpr ⟨⟨s_ldI dX12_loadAt_37, s_mo_ldI _ _⟩, (List.forall_mem_cons.mpr ⟨⟨s_iconst dX12_loadAt_39 (by decide +kernel), s_mo_push _ _⟩, (List.forall_mem_cons.mpr ⟨⟨s_sV mk_195 mk_193 ok_193 (by decide +kernel) dX12_loadAt_40 w_1479 w_1481 wp_53 (Or.inr ⟨8, _, _, rfl, rfl⟩), s_h0 mk_195⟩, (List.forall_mem_cons.mpr ⟨⟨s_sS mk_195 mk_194 ok_194 (by decide +kernel) dX12_loadAt_43 w_1510 w_1511, s_h0 mk_195⟩, (List.forall_mem_cons.mpr ⟨⟨s_ifeq dX12_loadAt_46 (by decide), s_mo_ifeq _ _⟩, (List.forall_mem_cons.mpr ⟨⟨s_ldAn dX12_loadAt_49 rfl, s_mo_ldA _ _⟩, (List.forall_mem_cons.mpr ⟨⟨s_ldI dX12_loadAt_50, s_mo_ldI _ _⟩, (List.forall_mem_cons.mpr ⟨⟨s_iconst dX12_loadAt_52 (by decide +kernel), s_mo_push _ _⟩, (List.forall_mem_cons.mpr ⟨⟨s_sV mk_195 mk_193 ok_193 (by decide +kernel) dX12_loadAt_53 w_1479 w_1481 wp_53 (Or.inr ⟨8, _, _, rfl, rfl⟩), s_h0 mk_195⟩, (List.forall_mem_cons.mpr ⟨⟨s_iconst dX12_loadAt_56 (by decide +kernel), s_mo_push _ _⟩, (List.forall_mem_cons.mpr ⟨⟨s_ldAn dX12_loadAt_57 rfl, s_mo_ldA _ _⟩, (List.forall_mem_cons.mpr ⟨⟨s_ldI dX12_loadAt_58, s_mo_ldI _ _⟩, (List.forall_mem_cons.mpr ⟨⟨s_iconst dX12_loadAt_60 (by decide +kernel), s_mo_push _ _⟩, (List.forall_mem_cons.mpr ⟨⟨s_sV mk_195 mk_193 ok_193 (by decide +kernel) dX12_loadAt_61 w_1479 w_1481 wp_53 (Or.inr ⟨8, _, _, rfl, rfl⟩), s_h0 mk_195⟩, (fun _ h => absurd h List.not_mem_nil)⟩)⟩)⟩)⟩)⟩)⟩)⟩)⟩)⟩)⟩)⟩)⟩)⟩)⟩)⟩)⟩)⟩)⟩)⟩)⟩)⟩)⟩)⟩)⟩)⟩)⟩)⟩)⟩)⟩)⟩)⟩)⟩)⟩)⟩)⟩)⟩)⟩)
set_option maxRecDepth 20000 in
theorem kb_195_1 : ∀ q ∈ tb_195_1, s_atx 195 yX12_loadAt cX12_loadAt q.1 q.2 := (List.forall_mem_cons.mpr ⟨⟨s_isub dX12_loadAt_64, s_mo_bin _ _⟩, (List.forall_mem_cons.mpr ⟨⟨s_imul dX12_loadAt_65, s_mo_bin _ _⟩, (List.forall_mem_cons.mpr ⟨⟨s_goto dX12_loadAt_66 (by decide), s_mo_goto _⟩, (List.forall_mem_cons.mpr ⟨⟨s_iconst dX12_loadAt_69 (by decide +kernel), s_mo_push _ _⟩, (List.forall_mem_cons.mpr ⟨⟨s_iadd dX12_loadAt_70, s_mo_bin _ _⟩, (List.forall_mem_cons.mpr ⟨⟨s_stIn dX12_loadAt_71 rfl, s_mo_stI _ _⟩, (List.forall_mem_cons.mpr ⟨⟨s_inc dX12_loadAt_72 (by decide +kernel), s_mo_inc _ _ _⟩, (List.forall_mem_cons.mpr ⟨⟨s_goto dX12_loadAt_75 (by decide), s_mo_goto _⟩, (List.forall_mem_cons.mpr ⟨⟨s_ldIn dX12_loadAt_78 rfl, s_mo_ldI _ _⟩, (List.forall_mem_cons.mpr ⟨s_r1 mk_195 dX12_loadAt_79, (fun _ h => absurd h List.not_mem_nil)⟩)⟩)⟩)⟩)⟩)⟩)⟩)⟩)⟩)⟩)
theorem km_195 : ∀ t ∈ tm_195, s_tok 195 t := (List.forall_mem_cons.mpr ⟨s_lift mk_195 kb_195_0, (List.forall_mem_cons.mpr ⟨s_lift mk_195 kb_195_1, (fun _ h => absurd h List.not_mem_nil)⟩)⟩)
