/-! The tables are backed, piece by piece: written by wip/whole/gen_prog.py -/
theorem dX0_init_0 : decode cX0_init 0 = .ok (.aload_n 0, 1) := by decide +kernel
theorem dX0_init_1 : decode cX0_init 1 = .ok (.invokespecial 3, 3) := by decide +kernel
theorem dX0_init_4 : decode cX0_init 4 = .ok (.aload_n 0, 1) := by decide +kernel
theorem dX0_init_5 : decode cX0_init 5 = .ok (.bipush 30, 2) := by decide +kernel
theorem dX0_init_7 : decode cX0_init 7 = .ok (.newarray .int, 2) := by decide +kernel
theorem dX0_init_9 : decode cX0_init 9 = .ok (.putfield 9, 3) := by decide +kernel
theorem dX0_init_12 : decode cX0_init 12 = .ok (.aload_n 0, 1) := by decide +kernel
theorem dX0_init_13 : decode cX0_init 13 = .ok (.bipush 30, 2) := by decide +kernel
theorem dX0_init_15 : decode cX0_init 15 = .ok (.newarray .int, 2) := by decide +kernel
theorem dX0_init_17 : decode cX0_init 17 = .ok (.putfield 15, 3) := by decide +kernel
theorem dX0_init_20 : decode cX0_init 20 = .ok (.aload_n 0, 1) := by decide +kernel
theorem dX0_init_21 : decode cX0_init 21 = .ok (.bipush 30, 2) := by decide +kernel
theorem dX0_init_23 : decode cX0_init 23 = .ok (.newarray .int, 2) := by decide +kernel
theorem dX0_init_25 : decode cX0_init 25 = .ok (.putfield 18, 3) := by decide +kernel
theorem dX0_init_28 : decode cX0_init 28 = .ok (.aload_n 0, 1) := by decide +kernel
theorem dX0_init_29 : decode cX0_init 29 = .ok (.bipush 30, 2) := by decide +kernel
theorem dX0_init_31 : decode cX0_init 31 = .ok (.newarray .int, 2) := by decide +kernel
theorem dX0_init_33 : decode cX0_init 33 = .ok (.putfield 21, 3) := by decide +kernel
theorem dX0_init_36 : decode cX0_init 36 = .ok (.aload_n 0, 1) := by decide +kernel
theorem dX0_init_37 : decode cX0_init 37 = .ok (.bipush 30, 2) := by decide +kernel
theorem dX0_init_39 : decode cX0_init 39 = .ok (.newarray .int, 2) := by decide +kernel
theorem dX0_init_41 : decode cX0_init 41 = .ok (.putfield 24, 3) := by decide +kernel
theorem dX0_init_44 : decode cX0_init 44 = .ok (.aload_n 0, 1) := by decide +kernel
theorem dX0_init_45 : decode cX0_init 45 = .ok (.bipush 30, 2) := by decide +kernel
theorem dX0_init_47 : decode cX0_init 47 = .ok (.newarray .int, 2) := by decide +kernel
theorem dX0_init_49 : decode cX0_init 49 = .ok (.putfield 27, 3) := by decide +kernel
theorem dX0_init_52 : decode cX0_init 52 = .ok (.aload_n 0, 1) := by decide +kernel
theorem dX0_init_53 : decode cX0_init 53 = .ok (.bipush 60, 2) := by decide +kernel
theorem dX0_init_55 : decode cX0_init 55 = .ok (.newarray .int, 2) := by decide +kernel
theorem dX0_init_57 : decode cX0_init 57 = .ok (.putfield 30, 3) := by decide +kernel
theorem dX0_init_60 : decode cX0_init 60 = .ok (.aload_n 0, 1) := by decide +kernel
theorem dX0_init_61 : decode cX0_init 61 = .ok (.iconst 0, 1) := by decide +kernel
theorem dX0_init_62 : decode cX0_init 62 = .ok (.putfield 33, 3) := by decide +kernel
theorem dX0_init_65 : decode cX0_init 65 = .ok (.aload_n 0, 1) := by decide +kernel
theorem dX0_init_66 : decode cX0_init 66 = .ok (.sipush 180, 3) := by decide +kernel
theorem dX0_init_69 : decode cX0_init 69 = .ok (.newarray .int, 2) := by decide +kernel
theorem dX0_init_71 : decode cX0_init 71 = .ok (.putfield 37, 3) := by decide +kernel
theorem dX0_init_74 : decode cX0_init 74 = .ok (.aload_n 0, 1) := by decide +kernel
theorem dX0_init_75 : decode cX0_init 75 = .ok (.bipush 10, 2) := by decide +kernel
theorem dX0_init_77 : decode cX0_init 77 = .ok (.putfield 40, 3) := by decide +kernel
theorem dX0_init_80 : decode cX0_init 80 = .ok (.aload_n 0, 1) := by decide +kernel
theorem dX0_init_81 : decode cX0_init 81 = .ok (.iconst 0, 1) := by decide +kernel
theorem dX0_init_82 : decode cX0_init 82 = .ok (.putfield 43, 3) := by decide +kernel
theorem dX0_init_85 : decode cX0_init 85 = .ok (.aload_n 0, 1) := by decide +kernel
theorem dX0_init_86 : decode cX0_init 86 = .ok (.iconst 3, 1) := by decide +kernel
theorem dX0_init_87 : decode cX0_init 87 = .ok (.iconst 3, 1) := by decide +kernel
theorem dX0_init_88 : decode cX0_init 88 = .ok (.invokevirtual 46, 3) := by decide +kernel
theorem dX0_init_91 : decode cX0_init 91 = .ok (.return_, 1) := by decide +kernel
set_option maxRecDepth 20000 in
theorem kb_0_0 : ∀ q ∈ tb_0_0, s_atx 0 yX0_init cX0_init q.1 q.2 := (List.forall_mem_cons.mpr ⟨⟨s_ldAn dX0_init_0 rfl, s_mo_ldA _ _⟩, (List.forall_mem_cons.mpr ⟨⟨s_oinit w_42 w_oi w_oc dX0_init_1, s_mo_oinit _⟩, (List.forall_mem_cons.mpr ⟨⟨s_ldAn dX0_init_4 rfl, s_mo_ldA _ _⟩, (List.forall_mem_cons.mpr ⟨⟨s_bipush dX0_init_5 (by decide +kernel), s_mo_push _ _⟩, (List.forall_mem_cons.mpr ⟨⟨s_newa (t := 0) (aty := .int) (ty := .int) (by decide) rfl (fun _ => rfl) (fun _ _ h => h) (by decide) (fun _ _ => ⟨_, rfl, rfl⟩) w_arr0 dX0_init_7, s_mo_newa _ _⟩, (List.forall_mem_cons.mpr ⟨⟨s_putAF (ci := 0) (k := 6) rfl (by decide) inX0 tyX0_ok nmX0 rfl rfl rfl (fun _ => rfl) (fun _ => rfl) w_71 dX0_init_9, s_mo_putA _ _ _⟩, (List.forall_mem_cons.mpr ⟨⟨s_ldAn dX0_init_12 rfl, s_mo_ldA _ _⟩, (List.forall_mem_cons.mpr ⟨⟨s_bipush dX0_init_13 (by decide +kernel), s_mo_push _ _⟩, (List.forall_mem_cons.mpr ⟨⟨s_newa (t := 0) (aty := .int) (ty := .int) (by decide) rfl (fun _ => rfl) (fun _ _ h => h) (by decide) (fun _ _ => ⟨_, rfl, rfl⟩) w_arr0 dX0_init_15, s_mo_newa _ _⟩, (List.forall_mem_cons.mpr ⟨⟨s_putAF (ci := 0) (k := 7) rfl (by decide) inX0 tyX0_ok nmX0 rfl rfl rfl (fun _ => rfl) (fun _ => rfl) w_77 dX0_init_17, s_mo_putA _ _ _⟩, (List.forall_mem_cons.mpr ⟨⟨s_ldAn dX0_init_20 rfl, s_mo_ldA _ _⟩, (List.forall_mem_cons.mpr ⟨⟨s_bipush dX0_init_21 (by decide +kernel), s_mo_push _ _⟩, (List.forall_mem_cons.mpr ⟨⟨s_newa (t := 0) (aty := .int) (ty := .int) (by decide) rfl (fun _ => rfl) (fun _ _ h => h) (by decide) (fun _ _ => ⟨_, rfl, rfl⟩) w_arr0 dX0_init_23, s_mo_newa _ _⟩, (List.forall_mem_cons.mpr ⟨⟨s_putAF (ci := 0) (k := 8) rfl (by decide) inX0 tyX0_ok nmX0 rfl rfl rfl (fun _ => rfl) (fun _ => rfl) w_83 dX0_init_25, s_mo_putA _ _ _⟩, (List.forall_mem_cons.mpr ⟨⟨s_ldAn dX0_init_28 rfl, s_mo_ldA _ _⟩, (List.forall_mem_cons.mpr ⟨⟨s_bipush dX0_init_29 (by decide +kernel), s_mo_push _ _⟩, (List.forall_mem_cons.mpr ⟨⟨s_newa (t := 0) (aty := .int) (ty := .int) (by decide) rfl (fun _ => rfl) (fun _ _ h => h) (by decide) (fun _ _ => ⟨_, rfl, rfl⟩) w_arr0 dX0_init_31, s_mo_newa _ _⟩, (List.forall_mem_cons.mpr ⟨⟨s_putAF (ci := 0) (k := 9) rfl (by decide) inX0 tyX0_ok nmX0 rfl rfl rfl (fun _ => rfl) (fun _ => rfl) w_88 dX0_init_33, s_mo_putA _ _ _⟩, (List.forall_mem_cons.mpr ⟨⟨s_ldAn dX0_init_36 rfl, s_mo_ldA _ _⟩, (List.forall_mem_cons.mpr ⟨⟨s_bipush dX0_init_37 (by decide +kernel), s_mo_push _ _⟩, (List.forall_mem_cons.mpr ⟨⟨s_newa (t := 0) (aty := .int) (ty := .int) (by decide) rfl (fun _ => rfl) (fun _ _ h => h) (by decide) (fun _ _ => ⟨_, rfl, rfl⟩) w_arr0 dX0_init_39, s_mo_newa _ _⟩, (List.forall_mem_cons.mpr ⟨⟨s_putAF (ci := 0) (k := 10) rfl (by decide) inX0 tyX0_ok nmX0 rfl rfl rfl (fun _ => rfl) (fun _ => rfl) w_95 dX0_init_41, s_mo_putA _ _ _⟩, (List.forall_mem_cons.mpr ⟨⟨s_ldAn dX0_init_44 rfl, s_mo_ldA _ _⟩, (List.forall_mem_cons.mpr ⟨⟨s_bipush dX0_init_45 (by decide +kernel), s_mo_push _ _⟩, (List.forall_mem_cons.mpr ⟨⟨s_newa (t := 0) (aty := .int) (ty := .int) (by decide) rfl (fun _ => rfl) (fun _ _ h => h) (by decide) (fun _ _ => ⟨_, rfl, rfl⟩) w_arr0 dX0_init_47, s_mo_newa _ _⟩, (List.forall_mem_cons.mpr ⟨⟨s_putAF (ci := 0) (k := 11) rfl (by decide) inX0 tyX0_ok nmX0 rfl rfl rfl (fun _ => rfl) (fun _ => rfl) w_100 dX0_init_49, s_mo_putA _ _ _⟩, (List.forall_mem_cons.mpr ⟨⟨s_ldAn dX0_init_52 rfl, s_mo_ldA _ _⟩, (List.forall_mem_cons.mpr ⟨⟨s_bipush dX0_init_53 (by decide +kernel), s_mo_push _ _⟩, (List.forall_mem_cons.mpr ⟨⟨s_newa (t := 0) (aty := .int) (ty := .int) (by decide) rfl (fun _ => rfl) (fun _ _ h => h) (by decide) (fun _ _ => ⟨_, rfl, rfl⟩) w_arr0 dX0_init_55, s_mo_newa _ _⟩, (List.forall_mem_cons.mpr ⟨⟨s_putAF (ci := 0) (k := 13) rfl (by decide) inX0 tyX0_ok nmX0 rfl rfl rfl (fun _ => rfl) (fun _ => rfl) w_107 dX0_init_57, s_mo_putA _ _ _⟩, (List.forall_mem_cons.mpr ⟨⟨s_ldAn dX0_init_60 rfl, s_mo_ldA _ _⟩, (List.forall_mem_cons.mpr ⟨⟨s_iconst dX0_init_61 (by decide +kernel), s_mo_push _ _⟩, (List.forall_mem_cons.mpr ⟨⟨s_putI (ci := 0) (k := 14) rfl (by decide) inX0 tyX0_ok nmX0 rfl rfl w_111 dX0_init_62, s_mo_putI _ _ _⟩, (fun _ h => absurd h List.not_mem_nil)⟩)⟩)⟩)⟩)⟩)⟩)⟩)⟩)⟩)⟩)⟩)⟩)⟩)⟩)⟩)⟩)⟩)⟩)⟩)⟩)⟩)⟩)⟩)⟩)⟩)⟩)⟩)⟩)⟩)⟩)⟩)⟩)⟩)
set_option maxRecDepth 20000 in
theorem kb_0_1 : ∀ q ∈ tb_0_1, s_atx 0 yX0_init cX0_init q.1 q.2 := (List.forall_mem_cons.mpr ⟨⟨s_ldAn dX0_init_65 rfl, s_mo_ldA _ _⟩, (List.forall_mem_cons.mpr ⟨⟨s_sipush dX0_init_66 (by decide +kernel), s_mo_push _ _⟩, (List.forall_mem_cons.mpr ⟨⟨s_newa (t := 0) (aty := .int) (ty := .int) (by decide) rfl (fun _ => rfl) (fun _ _ h => h) (by decide) (fun _ _ => ⟨_, rfl, rfl⟩) w_arr0 dX0_init_69, s_mo_newa _ _⟩, (List.forall_mem_cons.mpr ⟨⟨s_putAF (ci := 0) (k := 15) rfl (by decide) inX0 tyX0_ok nmX0 rfl rfl rfl (fun _ => rfl) (fun _ => rfl) w_114 dX0_init_71, s_mo_putA _ _ _⟩, (List.forall_mem_cons.mpr ⟨⟨s_ldAn dX0_init_74 rfl, s_mo_ldA _ _⟩, (List.forall_mem_cons.mpr ⟨⟨s_bipush dX0_init_75 (by decide +kernel), s_mo_push _ _⟩, (List.forall_mem_cons.mpr ⟨⟨s_putI (ci := 0) (k := 16) rfl (by decide) inX0 tyX0_ok nmX0 rfl rfl w_117 dX0_init_77, s_mo_putI _ _ _⟩, (List.forall_mem_cons.mpr ⟨⟨s_ldAn dX0_init_80 rfl, s_mo_ldA _ _⟩, (List.forall_mem_cons.mpr ⟨⟨s_iconst dX0_init_81 (by decide +kernel), s_mo_push _ _⟩, (List.forall_mem_cons.mpr ⟨⟨s_putI (ci := 0) (k := 17) rfl (by decide) inX0 tyX0_ok nmX0 rfl rfl w_120 dX0_init_82, s_mo_putI _ _ _⟩, (List.forall_mem_cons.mpr ⟨⟨s_ldAn dX0_init_85 rfl, s_mo_ldA _ _⟩, (List.forall_mem_cons.mpr ⟨⟨s_iconst dX0_init_86 (by decide +kernel), s_mo_push _ _⟩, (List.forall_mem_cons.mpr ⟨⟨s_iconst dX0_init_87 (by decide +kernel), s_mo_push _ _⟩, (List.forall_mem_cons.mpr ⟨⟨s_sV mk_0 mk_1 ok_1 (by decide +kernel) dX0_init_88 w_43 w_44 w_45 (Or.inr ⟨0, _, _, rfl, rfl⟩), s_h0 mk_0⟩, (List.forall_mem_cons.mpr ⟨s_r0 mk_0 dX0_init_91, (fun _ h => absurd h List.not_mem_nil)⟩)⟩)⟩)⟩)⟩)⟩)⟩)⟩)⟩)⟩)⟩)⟩)⟩)⟩)⟩)
theorem km_0 : ∀ t ∈ tm_0, s_tok 0 t := (List.forall_mem_cons.mpr ⟨s_lift mk_0 kb_0_0, (List.forall_mem_cons.mpr ⟨s_lift mk_0 kb_0_1, (fun _ h => absurd h List.not_mem_nil)⟩)⟩)
theorem dX0_layOut_0 : decode cX0_layOut 0 = .ok (.aload_n 0, 1) := by decide +kernel
theorem dX0_layOut_1 : decode cX0_layOut 1 = .ok (.iload_n 1, 1) := by decide +kernel
theorem dX0_layOut_2 : decode cX0_layOut 2 = .ok (.putfield 50, 3) := by decide +kernel
theorem dX0_layOut_5 : decode cX0_layOut 5 = .ok (.aload_n 0, 1) := by decide +kernel
theorem dX0_layOut_6 : decode cX0_layOut 6 = .ok (.iload_n 2, 1) := by decide +kernel
theorem dX0_layOut_7 : decode cX0_layOut 7 = .ok (.putfield 53, 3) := by decide +kernel
theorem dX0_layOut_10 : decode cX0_layOut 10 = .ok (.aload_n 0, 1) := by decide +kernel
theorem dX0_layOut_11 : decode cX0_layOut 11 = .ok (.iload_n 1, 1) := by decide +kernel
theorem dX0_layOut_12 : decode cX0_layOut 12 = .ok (.iload_n 2, 1) := by decide +kernel
theorem dX0_layOut_13 : decode cX0_layOut 13 = .ok (.imul, 1) := by decide +kernel
theorem dX0_layOut_14 : decode cX0_layOut 14 = .ok (.putfield 56, 3) := by decide +kernel
theorem dX0_layOut_17 : decode cX0_layOut 17 = .ok (.aload_n 0, 1) := by decide +kernel
theorem dX0_layOut_18 : decode cX0_layOut 18 = .ok (.iconst 1, 1) := by decide +kernel
theorem dX0_layOut_19 : decode cX0_layOut 19 = .ok (.aload_n 0, 1) := by decide +kernel
theorem dX0_layOut_20 : decode cX0_layOut 20 = .ok (.getfield 56, 3) := by decide +kernel
theorem dX0_layOut_23 : decode cX0_layOut 23 = .ok (.ishl, 1) := by decide +kernel
theorem dX0_layOut_24 : decode cX0_layOut 24 = .ok (.iconst 1, 1) := by decide +kernel
theorem dX0_layOut_25 : decode cX0_layOut 25 = .ok (.isub, 1) := by decide +kernel
theorem dX0_layOut_26 : decode cX0_layOut 26 = .ok (.putfield 59, 3) := by decide +kernel
theorem dX0_layOut_29 : decode cX0_layOut 29 = .ok (.aload_n 0, 1) := by decide +kernel
theorem dX0_layOut_30 : decode cX0_layOut 30 = .ok (.iconst 0, 1) := by decide +kernel
theorem dX0_layOut_31 : decode cX0_layOut 31 = .ok (.putfield 62, 3) := by decide +kernel
theorem dX0_layOut_34 : decode cX0_layOut 34 = .ok (.iconst 0, 1) := by decide +kernel
theorem dX0_layOut_35 : decode cX0_layOut 35 = .ok (.istore_n 3, 1) := by decide +kernel
theorem dX0_layOut_36 : decode cX0_layOut 36 = .ok (.iload_n 3, 1) := by decide +kernel
theorem dX0_layOut_37 : decode cX0_layOut 37 = .ok (.iload_n 2, 1) := by decide +kernel
theorem dX0_layOut_38 : decode cX0_layOut 38 = .ok (.if_icmp .ge 23, 3) := by decide +kernel
theorem dX0_layOut_41 : decode cX0_layOut 41 = .ok (.aload_n 0, 1) := by decide +kernel
theorem dX0_layOut_42 : decode cX0_layOut 42 = .ok (.dup, 1) := by decide +kernel
theorem dX0_layOut_43 : decode cX0_layOut 43 = .ok (.getfield 62, 3) := by decide +kernel
theorem dX0_layOut_46 : decode cX0_layOut 46 = .ok (.iconst 1, 1) := by decide +kernel
theorem dX0_layOut_47 : decode cX0_layOut 47 = .ok (.iload_n 1, 1) := by decide +kernel
theorem dX0_layOut_48 : decode cX0_layOut 48 = .ok (.iload_n 3, 1) := by decide +kernel
theorem dX0_layOut_49 : decode cX0_layOut 49 = .ok (.imul, 1) := by decide +kernel
theorem dX0_layOut_50 : decode cX0_layOut 50 = .ok (.ishl, 1) := by decide +kernel
theorem dX0_layOut_51 : decode cX0_layOut 51 = .ok (.ior, 1) := by decide +kernel
theorem dX0_layOut_52 : decode cX0_layOut 52 = .ok (.putfield 62, 3) := by decide +kernel
theorem dX0_layOut_55 : decode cX0_layOut 55 = .ok (.iinc 3 1, 3) := by decide +kernel
theorem dX0_layOut_58 : decode cX0_layOut 58 = .ok (.goto (-22), 3) := by decide +kernel
theorem dX0_layOut_61 : decode cX0_layOut 61 = .ok (.aload_n 0, 1) := by decide +kernel
theorem dX0_layOut_62 : decode cX0_layOut 62 = .ok (.aload_n 0, 1) := by decide +kernel
theorem dX0_layOut_63 : decode cX0_layOut 63 = .ok (.getfield 62, 3) := by decide +kernel
theorem dX0_layOut_66 : decode cX0_layOut 66 = .ok (.iload_n 1, 1) := by decide +kernel
theorem dX0_layOut_67 : decode cX0_layOut 67 = .ok (.iconst 1, 1) := by decide +kernel
theorem dX0_layOut_68 : decode cX0_layOut 68 = .ok (.isub, 1) := by decide +kernel
theorem dX0_layOut_69 : decode cX0_layOut 69 = .ok (.ishl, 1) := by decide +kernel
theorem dX0_layOut_70 : decode cX0_layOut 70 = .ok (.putfield 65, 3) := by decide +kernel
theorem dX0_layOut_73 : decode cX0_layOut 73 = .ok (.aload_n 0, 1) := by decide +kernel
theorem dX0_layOut_74 : decode cX0_layOut 74 = .ok (.getfield 9, 3) := by decide +kernel
theorem dX0_layOut_77 : decode cX0_layOut 77 = .ok (.iconst 4, 1) := by decide +kernel
theorem dX0_layOut_78 : decode cX0_layOut 78 = .ok (.invokestatic 68, 3) := by decide +kernel
theorem dX0_layOut_81 : decode cX0_layOut 81 = .ok (.aload_n 0, 1) := by decide +kernel
theorem dX0_layOut_82 : decode cX0_layOut 82 = .ok (.getfield 15, 3) := by decide +kernel
theorem dX0_layOut_85 : decode cX0_layOut 85 = .ok (.bipush 10, 2) := by decide +kernel
theorem dX0_layOut_87 : decode cX0_layOut 87 = .ok (.invokestatic 68, 3) := by decide +kernel
theorem dX0_layOut_90 : decode cX0_layOut 90 = .ok (.aload_n 0, 1) := by decide +kernel
theorem dX0_layOut_91 : decode cX0_layOut 91 = .ok (.getfield 18, 3) := by decide +kernel
theorem dX0_layOut_94 : decode cX0_layOut 94 = .ok (.iconst 0, 1) := by decide +kernel
theorem dX0_layOut_95 : decode cX0_layOut 95 = .ok (.invokestatic 68, 3) := by decide +kernel
theorem dX0_layOut_98 : decode cX0_layOut 98 = .ok (.aload_n 0, 1) := by decide +kernel
theorem dX0_layOut_99 : decode cX0_layOut 99 = .ok (.getfield 21, 3) := by decide +kernel
theorem dX0_layOut_102 : decode cX0_layOut 102 = .ok (.iconst 0, 1) := by decide +kernel
theorem dX0_layOut_103 : decode cX0_layOut 103 = .ok (.invokestatic 68, 3) := by decide +kernel
theorem dX0_layOut_106 : decode cX0_layOut 106 = .ok (.aload_n 0, 1) := by decide +kernel
theorem dX0_layOut_107 : decode cX0_layOut 107 = .ok (.getfield 24, 3) := by decide +kernel
theorem dX0_layOut_110 : decode cX0_layOut 110 = .ok (.iconst 0, 1) := by decide +kernel
theorem dX0_layOut_111 : decode cX0_layOut 111 = .ok (.invokestatic 68, 3) := by decide +kernel
theorem dX0_layOut_114 : decode cX0_layOut 114 = .ok (.aload_n 0, 1) := by decide +kernel
theorem dX0_layOut_115 : decode cX0_layOut 115 = .ok (.getfield 27, 3) := by decide +kernel
theorem dX0_layOut_118 : decode cX0_layOut 118 = .ok (.iconst 0, 1) := by decide +kernel
theorem dX0_layOut_119 : decode cX0_layOut 119 = .ok (.invokestatic 68, 3) := by decide +kernel
theorem dX0_layOut_122 : decode cX0_layOut 122 = .ok (.aload_n 0, 1) := by decide +kernel
theorem dX0_layOut_123 : decode cX0_layOut 123 = .ok (.iconst 0, 1) := by decide +kernel
theorem dX0_layOut_124 : decode cX0_layOut 124 = .ok (.putfield 74, 3) := by decide +kernel
theorem dX0_layOut_127 : decode cX0_layOut 127 = .ok (.aload_n 0, 1) := by decide +kernel
theorem dX0_layOut_128 : decode cX0_layOut 128 = .ok (.getfield 37, 3) := by decide +kernel
theorem dX0_layOut_131 : decode cX0_layOut 131 = .ok (.iconst 0, 1) := by decide +kernel
theorem dX0_layOut_132 : decode cX0_layOut 132 = .ok (.invokestatic 68, 3) := by decide +kernel
theorem dX0_layOut_135 : decode cX0_layOut 135 = .ok (.return_, 1) := by decide +kernel
set_option maxRecDepth 20000 in
theorem kb_1_0 : ∀ q ∈ tb_1_0, s_atx 1 yX0_layOut cX0_layOut q.1 q.2 := (List.forall_mem_cons.mpr ⟨⟨s_ldAn dX0_layOut_0 rfl, s_mo_ldA _ _⟩, (List.forall_mem_cons.mpr ⟨⟨s_ldIn dX0_layOut_1 rfl, s_mo_ldI _ _⟩, (List.forall_mem_cons.mpr ⟨⟨s_putI (ci := 0) (k := 0) rfl (by decide) inX0 tyX0_ok nmX0 rfl rfl w_50 dX0_layOut_2, s_mo_putI _ _ _⟩, (List.forall_mem_cons.mpr ⟨⟨s_ldAn dX0_layOut_5 rfl, s_mo_ldA _ _⟩, (List.forall_mem_cons.mpr ⟨⟨s_ldIn dX0_layOut_6 rfl, s_mo_ldI _ _⟩, (List.forall_mem_cons.mpr ⟨⟨s_putI (ci := 0) (k := 1) rfl (by decide) inX0 tyX0_ok nmX0 rfl rfl w_53 dX0_layOut_7, s_mo_putI _ _ _⟩, (List.forall_mem_cons.mpr ⟨⟨s_ldAn dX0_layOut_10 rfl, s_mo_ldA _ _⟩, (List.forall_mem_cons.mpr ⟨⟨s_ldIn dX0_layOut_11 rfl, s_mo_ldI _ _⟩, (List.forall_mem_cons.mpr ⟨⟨s_ldIn dX0_layOut_12 rfl, s_mo_ldI _ _⟩, (List.forall_mem_cons.mpr ⟨⟨s_imul dX0_layOut_13, s_mo_bin _ _⟩, (List.forall_mem_cons.mpr ⟨⟨s_putI (ci := 0) (k := 2) rfl (by decide) inX0 tyX0_ok nmX0 rfl rfl w_57 dX0_layOut_14, s_mo_putI _ _ _⟩, (List.forall_mem_cons.mpr ⟨⟨s_ldAn dX0_layOut_17 rfl, s_mo_ldA _ _⟩, (List.forall_mem_cons.mpr ⟨⟨s_iconst dX0_layOut_18 (by decide +kernel), s_mo_push _ _⟩, (List.forall_mem_cons.mpr ⟨⟨s_ldAn dX0_layOut_19 rfl, s_mo_ldA _ _⟩, (List.forall_mem_cons.mpr ⟨⟨s_getf (ci := 0) (k := 2) rfl (by decide) inX0 w_57 dX0_layOut_20, s_mo_getf _ _ _⟩, (List.forall_mem_cons.mpr ⟨⟨s_ishl dX0_layOut_23, s_mo_bin _ _⟩, (List.forall_mem_cons.mpr ⟨⟨s_iconst dX0_layOut_24 (by decide +kernel), s_mo_push _ _⟩, (List.forall_mem_cons.mpr ⟨⟨s_isub dX0_layOut_25, s_mo_bin _ _⟩, (List.forall_mem_cons.mpr ⟨⟨s_putI (ci := 0) (k := 3) rfl (by decide) inX0 tyX0_ok nmX0 rfl rfl w_64 dX0_layOut_26, s_mo_putI _ _ _⟩, (List.forall_mem_cons.mpr ⟨⟨s_ldAn dX0_layOut_29 rfl, s_mo_ldA _ _⟩, (List.forall_mem_cons.mpr ⟨⟨s_iconst dX0_layOut_30 (by decide +kernel), s_mo_push _ _⟩, (List.forall_mem_cons.mpr ⟨⟨s_putI (ci := 0) (k := 4) rfl (by decide) inX0 tyX0_ok nmX0 rfl rfl w_69 dX0_layOut_31, s_mo_putI _ _ _⟩, (List.forall_mem_cons.mpr ⟨⟨s_iconst dX0_layOut_34 (by decide +kernel), s_mo_push _ _⟩, (List.forall_mem_cons.mpr ⟨⟨s_stIn dX0_layOut_35 rfl, s_mo_stI _ _⟩, (List.forall_mem_cons.mpr ⟨⟨s_ldIn dX0_layOut_36 rfl, s_mo_ldI _ _⟩, (List.forall_mem_cons.mpr ⟨⟨s_ldIn dX0_layOut_37 rfl, s_mo_ldI _ _⟩, (List.forall_mem_cons.mpr ⟨⟨s_icge dX0_layOut_38 (by decide), s_mo_icge _ _⟩, (List.forall_mem_cons.mpr ⟨⟨s_ldAn dX0_layOut_41 rfl, s_mo_ldA _ _⟩, (List.forall_mem_cons.mpr ⟨⟨s_dup dX0_layOut_42, s_mo_dup _⟩, (List.forall_mem_cons.mpr ⟨⟨s_getf (ci := 0) (k := 4) rfl (by decide) inX0 w_69 dX0_layOut_43, s_mo_getf _ _ _⟩, (List.forall_mem_cons.mpr ⟨⟨s_iconst dX0_layOut_46 (by decide +kernel), s_mo_push _ _⟩, (List.forall_mem_cons.mpr ⟨⟨s_ldIn dX0_layOut_47 rfl, s_mo_ldI _ _⟩, (List.forall_mem_cons.mpr ⟨⟨s_ldIn dX0_layOut_48 rfl, s_mo_ldI _ _⟩, (List.forall_mem_cons.mpr ⟨⟨s_imul dX0_layOut_49, s_mo_bin _ _⟩, (List.forall_mem_cons.mpr ⟨⟨s_ishl dX0_layOut_50, s_mo_bin _ _⟩, (List.forall_mem_cons.mpr ⟨⟨s_ior dX0_layOut_51, s_mo_bin _ _⟩, (List.forall_mem_cons.mpr ⟨⟨s_putI (ci := 0) (k := 4) rfl (by decide) inX0 tyX0_ok nmX0 rfl rfl w_69 dX0_layOut_52, s_mo_putI _ _ _⟩, (List.forall_mem_cons.mpr ⟨⟨s_inc dX0_layOut_55 (by decide +kernel), s_mo_inc _ _ _⟩, (List.forall_mem_cons.mpr ⟨⟨s_goto dX0_layOut_58 (by decide), s_mo_goto _⟩, (List.forall_mem_cons.mpr ⟨⟨s_ldAn dX0_layOut_61 rfl, s_mo_ldA _ _⟩, (List.forall_mem_cons.mpr ⟨⟨s_ldAn dX0_layOut_62 rfl, s_mo_ldA _ _⟩, (List.forall_mem_cons.mpr ⟨⟨s_getf (ci := 0) (k := 4) rfl (by decide) inX0 w_69 dX0_layOut_63, s_mo_getf _ _ _⟩, (fun _ h => absurd h List.not_mem_nil)⟩)⟩)⟩)⟩)⟩)⟩)⟩)⟩)⟩)⟩)⟩)⟩)⟩)⟩)⟩)⟩)⟩)⟩)⟩)⟩)⟩)⟩)⟩)⟩)⟩)⟩)⟩)⟩)⟩)⟩)⟩)⟩)⟩)⟩)⟩)⟩)⟩)⟩)⟩)⟩)⟩)⟩)
set_option maxRecDepth 20000 in
theorem kb_1_1 : ∀ q ∈ tb_1_1, s_atx 1 yX0_layOut cX0_layOut q.1 q.2 := (List.forall_mem_cons.mpr ⟨⟨s_ldIn dX0_layOut_66 rfl, s_mo_ldI _ _⟩, (List.forall_mem_cons.mpr ⟨⟨s_iconst dX0_layOut_67 (by decide +kernel), s_mo_push _ _⟩, (List.forall_mem_cons.mpr ⟨⟨s_isub dX0_layOut_68, s_mo_bin _ _⟩, (List.forall_mem_cons.mpr ⟨⟨s_ishl dX0_layOut_69, s_mo_bin _ _⟩, (List.forall_mem_cons.mpr ⟨⟨s_putI (ci := 0) (k := 5) rfl (by decide) inX0 tyX0_ok nmX0 rfl rfl w_70 dX0_layOut_70, s_mo_putI _ _ _⟩, (List.forall_mem_cons.mpr ⟨⟨s_ldAn dX0_layOut_73 rfl, s_mo_ldA _ _⟩, (List.forall_mem_cons.mpr ⟨⟨s_getf (ci := 0) (k := 6) rfl (by decide) inX0 w_71 dX0_layOut_74, s_mo_getf _ _ _⟩, (List.forall_mem_cons.mpr ⟨⟨s_iconst dX0_layOut_77 (by decide +kernel), s_mo_push _ _⟩, (List.forall_mem_cons.mpr ⟨⟨s_sS mk_1 mk_262 ok_262 (by decide +kernel) dX0_layOut_78 w_47 w_48, s_h0 mk_1⟩, (List.forall_mem_cons.mpr ⟨⟨s_ldAn dX0_layOut_81 rfl, s_mo_ldA _ _⟩, (List.forall_mem_cons.mpr ⟨⟨s_getf (ci := 0) (k := 7) rfl (by decide) inX0 w_77 dX0_layOut_82, s_mo_getf _ _ _⟩, (List.forall_mem_cons.mpr ⟨⟨s_bipush dX0_layOut_85 (by decide +kernel), s_mo_push _ _⟩, (List.forall_mem_cons.mpr ⟨⟨s_sS mk_1 mk_262 ok_262 (by decide +kernel) dX0_layOut_87 w_47 w_48, s_h0 mk_1⟩, (List.forall_mem_cons.mpr ⟨⟨s_ldAn dX0_layOut_90 rfl, s_mo_ldA _ _⟩, (List.forall_mem_cons.mpr ⟨⟨s_getf (ci := 0) (k := 8) rfl (by decide) inX0 w_83 dX0_layOut_91, s_mo_getf _ _ _⟩, (List.forall_mem_cons.mpr ⟨⟨s_iconst dX0_layOut_94 (by decide +kernel), s_mo_push _ _⟩, (List.forall_mem_cons.mpr ⟨⟨s_sS mk_1 mk_262 ok_262 (by decide +kernel) dX0_layOut_95 w_47 w_48, s_h0 mk_1⟩, (List.forall_mem_cons.mpr ⟨⟨s_ldAn dX0_layOut_98 rfl, s_mo_ldA _ _⟩, (List.forall_mem_cons.mpr ⟨⟨s_getf (ci := 0) (k := 9) rfl (by decide) inX0 w_88 dX0_layOut_99, s_mo_getf _ _ _⟩, (List.forall_mem_cons.mpr ⟨⟨s_iconst dX0_layOut_102 (by decide +kernel), s_mo_push _ _⟩, (List.forall_mem_cons.mpr ⟨⟨s_sS mk_1 mk_262 ok_262 (by decide +kernel) dX0_layOut_103 w_47 w_48, s_h0 mk_1⟩, (List.forall_mem_cons.mpr ⟨⟨s_ldAn dX0_layOut_106 rfl, s_mo_ldA _ _⟩, (List.forall_mem_cons.mpr ⟨⟨s_getf (ci := 0) (k := 10) rfl (by decide) inX0 w_95 dX0_layOut_107, s_mo_getf _ _ _⟩, (List.forall_mem_cons.mpr ⟨⟨s_iconst dX0_layOut_110 (by decide +kernel), s_mo_push _ _⟩, (List.forall_mem_cons.mpr ⟨⟨s_sS mk_1 mk_262 ok_262 (by decide +kernel) dX0_layOut_111 w_47 w_48, s_h0 mk_1⟩, (List.forall_mem_cons.mpr ⟨⟨s_ldAn dX0_layOut_114 rfl, s_mo_ldA _ _⟩, (List.forall_mem_cons.mpr ⟨⟨s_getf (ci := 0) (k := 11) rfl (by decide) inX0 w_100 dX0_layOut_115, s_mo_getf _ _ _⟩, (List.forall_mem_cons.mpr ⟨⟨s_iconst dX0_layOut_118 (by decide +kernel), s_mo_push _ _⟩, (List.forall_mem_cons.mpr ⟨⟨s_sS mk_1 mk_262 ok_262 (by decide +kernel) dX0_layOut_119 w_47 w_48, s_h0 mk_1⟩, (List.forall_mem_cons.mpr ⟨⟨s_ldAn dX0_layOut_122 rfl, s_mo_ldA _ _⟩, (List.forall_mem_cons.mpr ⟨⟨s_iconst dX0_layOut_123 (by decide +kernel), s_mo_push _ _⟩, (List.forall_mem_cons.mpr ⟨⟨s_putI (ci := 0) (k := 12) rfl (by decide) inX0 tyX0_ok nmX0 rfl rfl w_104 dX0_layOut_124, s_mo_putI _ _ _⟩, (List.forall_mem_cons.mpr ⟨⟨s_ldAn dX0_layOut_127 rfl, s_mo_ldA _ _⟩, (fun _ h => absurd h List.not_mem_nil)⟩)⟩)⟩)⟩)⟩)⟩)⟩)⟩)⟩)⟩)⟩)⟩)⟩)⟩)⟩)⟩)⟩)⟩)⟩)⟩)⟩)⟩)⟩)⟩)⟩)⟩)⟩)⟩)⟩)⟩)⟩)⟩)⟩)
set_option maxRecDepth 20000 in
theorem kb_1_2 : ∀ q ∈ tb_1_2, s_atx 1 yX0_layOut cX0_layOut q.1 q.2 := (List.forall_mem_cons.mpr ⟨⟨s_getf (ci := 0) (k := 15) rfl (by decide) inX0 w_114 dX0_layOut_128, s_mo_getf _ _ _⟩, (List.forall_mem_cons.mpr ⟨⟨s_iconst dX0_layOut_131 (by decide +kernel), s_mo_push _ _⟩, (List.forall_mem_cons.mpr ⟨⟨s_sS mk_1 mk_262 ok_262 (by decide +kernel) dX0_layOut_132 w_47 w_48, s_h0 mk_1⟩, (List.forall_mem_cons.mpr ⟨s_r0 mk_1 dX0_layOut_135, (fun _ h => absurd h List.not_mem_nil)⟩)⟩)⟩)⟩)
theorem km_1 : ∀ t ∈ tm_1, s_tok 1 t := (List.forall_mem_cons.mpr ⟨s_lift mk_1 kb_1_0, (List.forall_mem_cons.mpr ⟨s_lift mk_1 kb_1_1, (List.forall_mem_cons.mpr ⟨s_lift mk_1 kb_1_2, (fun _ h => absurd h List.not_mem_nil)⟩)⟩)⟩)
theorem dX0_become_0 : decode cX0_become 0 = .ok (.aload_n 0, 1) := by decide +kernel
theorem dX0_become_1 : decode cX0_become 1 = .ok (.aload_n 1, 1) := by decide +kernel
theorem dX0_become_2 : decode cX0_become 2 = .ok (.getfield 50, 3) := by decide +kernel
theorem dX0_become_5 : decode cX0_become 5 = .ok (.putfield 50, 3) := by decide +kernel
theorem dX0_become_8 : decode cX0_become 8 = .ok (.aload_n 0, 1) := by decide +kernel
theorem dX0_become_9 : decode cX0_become 9 = .ok (.aload_n 1, 1) := by decide +kernel
theorem dX0_become_10 : decode cX0_become 10 = .ok (.getfield 53, 3) := by decide +kernel
theorem dX0_become_13 : decode cX0_become 13 = .ok (.putfield 53, 3) := by decide +kernel
theorem dX0_become_16 : decode cX0_become 16 = .ok (.aload_n 0, 1) := by decide +kernel
theorem dX0_become_17 : decode cX0_become 17 = .ok (.aload_n 1, 1) := by decide +kernel
theorem dX0_become_18 : decode cX0_become 18 = .ok (.getfield 56, 3) := by decide +kernel
theorem dX0_become_21 : decode cX0_become 21 = .ok (.putfield 56, 3) := by decide +kernel
theorem dX0_become_24 : decode cX0_become 24 = .ok (.aload_n 0, 1) := by decide +kernel
theorem dX0_become_25 : decode cX0_become 25 = .ok (.aload_n 1, 1) := by decide +kernel
theorem dX0_become_26 : decode cX0_become 26 = .ok (.getfield 59, 3) := by decide +kernel
theorem dX0_become_29 : decode cX0_become 29 = .ok (.putfield 59, 3) := by decide +kernel
theorem dX0_become_32 : decode cX0_become 32 = .ok (.aload_n 0, 1) := by decide +kernel
theorem dX0_become_33 : decode cX0_become 33 = .ok (.aload_n 1, 1) := by decide +kernel
theorem dX0_become_34 : decode cX0_become 34 = .ok (.getfield 62, 3) := by decide +kernel
theorem dX0_become_37 : decode cX0_become 37 = .ok (.putfield 62, 3) := by decide +kernel
theorem dX0_become_40 : decode cX0_become 40 = .ok (.aload_n 0, 1) := by decide +kernel
theorem dX0_become_41 : decode cX0_become 41 = .ok (.aload_n 1, 1) := by decide +kernel
theorem dX0_become_42 : decode cX0_become 42 = .ok (.getfield 65, 3) := by decide +kernel
theorem dX0_become_45 : decode cX0_become 45 = .ok (.putfield 65, 3) := by decide +kernel
theorem dX0_become_48 : decode cX0_become 48 = .ok (.aload_n 1, 1) := by decide +kernel
theorem dX0_become_49 : decode cX0_become 49 = .ok (.getfield 9, 3) := by decide +kernel
theorem dX0_become_52 : decode cX0_become 52 = .ok (.iconst 0, 1) := by decide +kernel
theorem dX0_become_53 : decode cX0_become 53 = .ok (.aload_n 0, 1) := by decide +kernel
theorem dX0_become_54 : decode cX0_become 54 = .ok (.getfield 9, 3) := by decide +kernel
theorem dX0_become_57 : decode cX0_become 57 = .ok (.iconst 0, 1) := by decide +kernel
theorem dX0_become_58 : decode cX0_become 58 = .ok (.bipush 30, 2) := by decide +kernel
theorem dX0_become_60 : decode cX0_become 60 = .ok (.invokestatic 77, 3) := by decide +kernel
theorem dX0_become_63 : decode cX0_become 63 = .ok (.aload_n 1, 1) := by decide +kernel
theorem dX0_become_64 : decode cX0_become 64 = .ok (.getfield 15, 3) := by decide +kernel
theorem dX0_become_67 : decode cX0_become 67 = .ok (.iconst 0, 1) := by decide +kernel
theorem dX0_become_68 : decode cX0_become 68 = .ok (.aload_n 0, 1) := by decide +kernel
theorem dX0_become_69 : decode cX0_become 69 = .ok (.getfield 15, 3) := by decide +kernel
theorem dX0_become_72 : decode cX0_become 72 = .ok (.iconst 0, 1) := by decide +kernel
theorem dX0_become_73 : decode cX0_become 73 = .ok (.bipush 30, 2) := by decide +kernel
theorem dX0_become_75 : decode cX0_become 75 = .ok (.invokestatic 77, 3) := by decide +kernel
theorem dX0_become_78 : decode cX0_become 78 = .ok (.aload_n 1, 1) := by decide +kernel
theorem dX0_become_79 : decode cX0_become 79 = .ok (.getfield 18, 3) := by decide +kernel
theorem dX0_become_82 : decode cX0_become 82 = .ok (.iconst 0, 1) := by decide +kernel
theorem dX0_become_83 : decode cX0_become 83 = .ok (.aload_n 0, 1) := by decide +kernel
theorem dX0_become_84 : decode cX0_become 84 = .ok (.getfield 18, 3) := by decide +kernel
theorem dX0_become_87 : decode cX0_become 87 = .ok (.iconst 0, 1) := by decide +kernel
theorem dX0_become_88 : decode cX0_become 88 = .ok (.bipush 30, 2) := by decide +kernel
theorem dX0_become_90 : decode cX0_become 90 = .ok (.invokestatic 77, 3) := by decide +kernel
theorem dX0_become_93 : decode cX0_become 93 = .ok (.aload_n 1, 1) := by decide +kernel
theorem dX0_become_94 : decode cX0_become 94 = .ok (.getfield 21, 3) := by decide +kernel
theorem dX0_become_97 : decode cX0_become 97 = .ok (.iconst 0, 1) := by decide +kernel
theorem dX0_become_98 : decode cX0_become 98 = .ok (.aload_n 0, 1) := by decide +kernel
theorem dX0_become_99 : decode cX0_become 99 = .ok (.getfield 21, 3) := by decide +kernel
theorem dX0_become_102 : decode cX0_become 102 = .ok (.iconst 0, 1) := by decide +kernel
theorem dX0_become_103 : decode cX0_become 103 = .ok (.bipush 30, 2) := by decide +kernel
theorem dX0_become_105 : decode cX0_become 105 = .ok (.invokestatic 77, 3) := by decide +kernel
theorem dX0_become_108 : decode cX0_become 108 = .ok (.aload_n 1, 1) := by decide +kernel
theorem dX0_become_109 : decode cX0_become 109 = .ok (.getfield 24, 3) := by decide +kernel
theorem dX0_become_112 : decode cX0_become 112 = .ok (.iconst 0, 1) := by decide +kernel
theorem dX0_become_113 : decode cX0_become 113 = .ok (.aload_n 0, 1) := by decide +kernel
theorem dX0_become_114 : decode cX0_become 114 = .ok (.getfield 24, 3) := by decide +kernel
theorem dX0_become_117 : decode cX0_become 117 = .ok (.iconst 0, 1) := by decide +kernel
theorem dX0_become_118 : decode cX0_become 118 = .ok (.bipush 30, 2) := by decide +kernel
theorem dX0_become_120 : decode cX0_become 120 = .ok (.invokestatic 77, 3) := by decide +kernel
theorem dX0_become_123 : decode cX0_become 123 = .ok (.aload_n 1, 1) := by decide +kernel
theorem dX0_become_124 : decode cX0_become 124 = .ok (.getfield 27, 3) := by decide +kernel
theorem dX0_become_127 : decode cX0_become 127 = .ok (.iconst 0, 1) := by decide +kernel
theorem dX0_become_128 : decode cX0_become 128 = .ok (.aload_n 0, 1) := by decide +kernel
theorem dX0_become_129 : decode cX0_become 129 = .ok (.getfield 27, 3) := by decide +kernel
theorem dX0_become_132 : decode cX0_become 132 = .ok (.iconst 0, 1) := by decide +kernel
theorem dX0_become_133 : decode cX0_become 133 = .ok (.bipush 30, 2) := by decide +kernel
theorem dX0_become_135 : decode cX0_become 135 = .ok (.invokestatic 77, 3) := by decide +kernel
theorem dX0_become_138 : decode cX0_become 138 = .ok (.aload_n 0, 1) := by decide +kernel
theorem dX0_become_139 : decode cX0_become 139 = .ok (.aload_n 1, 1) := by decide +kernel
theorem dX0_become_140 : decode cX0_become 140 = .ok (.getfield 74, 3) := by decide +kernel
theorem dX0_become_143 : decode cX0_become 143 = .ok (.putfield 74, 3) := by decide +kernel
theorem dX0_become_146 : decode cX0_become 146 = .ok (.aload_n 1, 1) := by decide +kernel
theorem dX0_become_147 : decode cX0_become 147 = .ok (.getfield 30, 3) := by decide +kernel
theorem dX0_become_150 : decode cX0_become 150 = .ok (.iconst 0, 1) := by decide +kernel
theorem dX0_become_151 : decode cX0_become 151 = .ok (.aload_n 0, 1) := by decide +kernel
theorem dX0_become_152 : decode cX0_become 152 = .ok (.getfield 30, 3) := by decide +kernel
theorem dX0_become_155 : decode cX0_become 155 = .ok (.iconst 0, 1) := by decide +kernel
theorem dX0_become_156 : decode cX0_become 156 = .ok (.aload_n 0, 1) := by decide +kernel
theorem dX0_become_157 : decode cX0_become 157 = .ok (.getfield 30, 3) := by decide +kernel
theorem dX0_become_160 : decode cX0_become 160 = .ok (.arraylength, 1) := by decide +kernel
theorem dX0_become_161 : decode cX0_become 161 = .ok (.invokestatic 77, 3) := by decide +kernel
theorem dX0_become_164 : decode cX0_become 164 = .ok (.aload_n 0, 1) := by decide +kernel
theorem dX0_become_165 : decode cX0_become 165 = .ok (.aload_n 1, 1) := by decide +kernel
theorem dX0_become_166 : decode cX0_become 166 = .ok (.getfield 33, 3) := by decide +kernel
theorem dX0_become_169 : decode cX0_become 169 = .ok (.putfield 33, 3) := by decide +kernel
theorem dX0_become_172 : decode cX0_become 172 = .ok (.aload_n 1, 1) := by decide +kernel
theorem dX0_become_173 : decode cX0_become 173 = .ok (.getfield 37, 3) := by decide +kernel
theorem dX0_become_176 : decode cX0_become 176 = .ok (.iconst 0, 1) := by decide +kernel
theorem dX0_become_177 : decode cX0_become 177 = .ok (.aload_n 0, 1) := by decide +kernel
theorem dX0_become_178 : decode cX0_become 178 = .ok (.getfield 37, 3) := by decide +kernel
theorem dX0_become_181 : decode cX0_become 181 = .ok (.iconst 0, 1) := by decide +kernel
theorem dX0_become_182 : decode cX0_become 182 = .ok (.aload_n 0, 1) := by decide +kernel
theorem dX0_become_183 : decode cX0_become 183 = .ok (.getfield 37, 3) := by decide +kernel
theorem dX0_become_186 : decode cX0_become 186 = .ok (.arraylength, 1) := by decide +kernel
theorem dX0_become_187 : decode cX0_become 187 = .ok (.invokestatic 77, 3) := by decide +kernel
theorem dX0_become_190 : decode cX0_become 190 = .ok (.aload_n 0, 1) := by decide +kernel
theorem dX0_become_191 : decode cX0_become 191 = .ok (.aload_n 1, 1) := by decide +kernel
theorem dX0_become_192 : decode cX0_become 192 = .ok (.getfield 40, 3) := by decide +kernel
theorem dX0_become_195 : decode cX0_become 195 = .ok (.putfield 40, 3) := by decide +kernel
theorem dX0_become_198 : decode cX0_become 198 = .ok (.aload_n 0, 1) := by decide +kernel
theorem dX0_become_199 : decode cX0_become 199 = .ok (.aload_n 1, 1) := by decide +kernel
theorem dX0_become_200 : decode cX0_become 200 = .ok (.getfield 43, 3) := by decide +kernel
theorem dX0_become_203 : decode cX0_become 203 = .ok (.putfield 43, 3) := by decide +kernel
theorem dX0_become_206 : decode cX0_become 206 = .ok (.return_, 1) := by decide +kernel
set_option maxRecDepth 20000 in
theorem kb_2_0 : ∀ q ∈ tb_2_0, s_atx 2 yX0_become cX0_become q.1 q.2 := (List.forall_mem_cons.mpr ⟨⟨s_ldAn dX0_become_0 rfl, s_mo_ldA _ _⟩, (List.forall_mem_cons.mpr ⟨⟨s_ldAn dX0_become_1 rfl, s_mo_ldA _ _⟩, (List.forall_mem_cons.mpr ⟨⟨s_getf (ci := 0) (k := 0) rfl (by decide) inX0 w_50 dX0_become_2, s_mo_getf _ _ _⟩, (List.forall_mem_cons.mpr ⟨⟨s_putI (ci := 0) (k := 0) rfl (by decide) inX0 tyX0_ok nmX0 rfl rfl w_50 dX0_become_5, s_mo_putI _ _ _⟩, (List.forall_mem_cons.mpr ⟨⟨s_ldAn dX0_become_8 rfl, s_mo_ldA _ _⟩, (List.forall_mem_cons.mpr ⟨⟨s_ldAn dX0_become_9 rfl, s_mo_ldA _ _⟩, (List.forall_mem_cons.mpr ⟨⟨s_getf (ci := 0) (k := 1) rfl (by decide) inX0 w_53 dX0_become_10, s_mo_getf _ _ _⟩, (List.forall_mem_cons.mpr ⟨⟨s_putI (ci := 0) (k := 1) rfl (by decide) inX0 tyX0_ok nmX0 rfl rfl w_53 dX0_become_13, s_mo_putI _ _ _⟩, (List.forall_mem_cons.mpr ⟨⟨s_ldAn dX0_become_16 rfl, s_mo_ldA _ _⟩, (List.forall_mem_cons.mpr ⟨⟨s_ldAn dX0_become_17 rfl, s_mo_ldA _ _⟩, (List.forall_mem_cons.mpr ⟨⟨s_getf (ci := 0) (k := 2) rfl (by decide) inX0 w_57 dX0_become_18, s_mo_getf _ _ _⟩, (List.forall_mem_cons.mpr ⟨⟨s_putI (ci := 0) (k := 2) rfl (by decide) inX0 tyX0_ok nmX0 rfl rfl w_57 dX0_become_21, s_mo_putI _ _ _⟩, (List.forall_mem_cons.mpr ⟨⟨s_ldAn dX0_become_24 rfl, s_mo_ldA _ _⟩, (List.forall_mem_cons.mpr ⟨⟨s_ldAn dX0_become_25 rfl, s_mo_ldA _ _⟩, (List.forall_mem_cons.mpr ⟨⟨s_getf (ci := 0) (k := 3) rfl (by decide) inX0 w_64 dX0_become_26, s_mo_getf _ _ _⟩, (List.forall_mem_cons.mpr ⟨⟨s_putI (ci := 0) (k := 3) rfl (by decide) inX0 tyX0_ok nmX0 rfl rfl w_64 dX0_become_29, s_mo_putI _ _ _⟩, (List.forall_mem_cons.mpr ⟨⟨s_ldAn dX0_become_32 rfl, s_mo_ldA _ _⟩, (List.forall_mem_cons.mpr ⟨⟨s_ldAn dX0_become_33 rfl, s_mo_ldA _ _⟩, (List.forall_mem_cons.mpr ⟨⟨s_getf (ci := 0) (k := 4) rfl (by decide) inX0 w_69 dX0_become_34, s_mo_getf _ _ _⟩, (List.forall_mem_cons.mpr ⟨⟨s_putI (ci := 0) (k := 4) rfl (by decide) inX0 tyX0_ok nmX0 rfl rfl w_69 dX0_become_37, s_mo_putI _ _ _⟩, (List.forall_mem_cons.mpr ⟨⟨s_ldAn dX0_become_40 rfl, s_mo_ldA _ _⟩, (List.forall_mem_cons.mpr ⟨⟨s_ldAn dX0_become_41 rfl, s_mo_ldA _ _⟩, (List.forall_mem_cons.mpr ⟨⟨s_getf (ci := 0) (k := 5) rfl (by decide) inX0 w_70 dX0_become_42, s_mo_getf _ _ _⟩, (List.forall_mem_cons.mpr ⟨⟨s_putI (ci := 0) (k := 5) rfl (by decide) inX0 tyX0_ok nmX0 rfl rfl w_70 dX0_become_45, s_mo_putI _ _ _⟩, (List.forall_mem_cons.mpr ⟨⟨s_ldAn dX0_become_48 rfl, s_mo_ldA _ _⟩, (List.forall_mem_cons.mpr ⟨⟨s_getf (ci := 0) (k := 6) rfl (by decide) inX0 w_71 dX0_become_49, s_mo_getf _ _ _⟩, (List.forall_mem_cons.mpr ⟨⟨s_iconst dX0_become_52 (by decide +kernel), s_mo_push _ _⟩, (List.forall_mem_cons.mpr ⟨⟨s_ldAn dX0_become_53 rfl, s_mo_ldA _ _⟩, (List.forall_mem_cons.mpr ⟨⟨s_getf (ci := 0) (k := 6) rfl (by decide) inX0 w_71 dX0_become_54, s_mo_getf _ _ _⟩, (List.forall_mem_cons.mpr ⟨⟨s_iconst dX0_become_57 (by decide +kernel), s_mo_push _ _⟩, (List.forall_mem_cons.mpr ⟨⟨s_bipush dX0_become_58 (by decide +kernel), s_mo_push _ _⟩, (List.forall_mem_cons.mpr ⟨⟨s_copy w_464 w_an w_as w_ai dX0_become_60, s_mo_copy _⟩, (List.forall_mem_cons.mpr ⟨⟨s_ldAn dX0_become_63 rfl, s_mo_ldA _ _⟩, (fun _ h => absurd h List.not_mem_nil)⟩)⟩)⟩)⟩)⟩)⟩)⟩)⟩)⟩)⟩)⟩)⟩)⟩)⟩)⟩)⟩)⟩)⟩)⟩)⟩)⟩)⟩)⟩)⟩)⟩)⟩)⟩)⟩)⟩)⟩)⟩)⟩)⟩)
set_option maxRecDepth 20000 in
theorem kb_2_1 : ∀ q ∈ tb_2_1, s_atx 2 yX0_become cX0_become q.1 q.2 := (List.forall_mem_cons.mpr ⟨⟨s_getf (ci := 0) (k := 7) rfl (by decide) inX0 w_77 dX0_become_64, s_mo_getf _ _ _⟩, (List.forall_mem_cons.mpr ⟨⟨s_iconst dX0_become_67 (by decide +kernel), s_mo_push _ _⟩, (List.forall_mem_cons.mpr ⟨⟨s_ldAn dX0_become_68 rfl, s_mo_ldA _ _⟩, (List.forall_mem_cons.mpr ⟨⟨s_getf (ci := 0) (k := 7) rfl (by decide) inX0 w_77 dX0_become_69, s_mo_getf _ _ _⟩, (List.forall_mem_cons.mpr ⟨⟨s_iconst dX0_become_72 (by decide +kernel), s_mo_push _ _⟩, (List.forall_mem_cons.mpr ⟨⟨s_bipush dX0_become_73 (by decide +kernel), s_mo_push _ _⟩, (List.forall_mem_cons.mpr ⟨⟨s_copy w_464 w_an w_as w_ai dX0_become_75, s_mo_copy _⟩, (List.forall_mem_cons.mpr ⟨⟨s_ldAn dX0_become_78 rfl, s_mo_ldA _ _⟩, (List.forall_mem_cons.mpr ⟨⟨s_getf (ci := 0) (k := 8) rfl (by decide) inX0 w_83 dX0_become_79, s_mo_getf _ _ _⟩, (List.forall_mem_cons.mpr ⟨⟨s_iconst dX0_become_82 (by decide +kernel), s_mo_push _ _⟩, (List.forall_mem_cons.mpr ⟨⟨s_ldAn dX0_become_83 rfl, s_mo_ldA _ _⟩, (List.forall_mem_cons.mpr ⟨⟨s_getf (ci := 0) (k := 8) rfl (by decide) inX0 w_83 dX0_become_84, s_mo_getf _ _ _⟩, (List.forall_mem_cons.mpr ⟨⟨s_iconst dX0_become_87 (by decide +kernel), s_mo_push _ _⟩, (List.forall_mem_cons.mpr ⟨⟨s_bipush dX0_become_88 (by decide +kernel), s_mo_push _ _⟩, (List.forall_mem_cons.mpr ⟨⟨s_copy w_464 w_an w_as w_ai dX0_become_90, s_mo_copy _⟩, (List.forall_mem_cons.mpr ⟨⟨s_ldAn dX0_become_93 rfl, s_mo_ldA _ _⟩, (List.forall_mem_cons.mpr ⟨⟨s_getf (ci := 0) (k := 9) rfl (by decide) inX0 w_88 dX0_become_94, s_mo_getf _ _ _⟩, (List.forall_mem_cons.mpr ⟨⟨s_iconst dX0_become_97 (by decide +kernel), s_mo_push _ _⟩, (List.forall_mem_cons.mpr ⟨⟨s_ldAn dX0_become_98 rfl, s_mo_ldA _ _⟩, (List.forall_mem_cons.mpr ⟨⟨s_getf (ci := 0) (k := 9) rfl (by decide) inX0 w_88 dX0_become_99, s_mo_getf _ _ _⟩, (List.forall_mem_cons.mpr ⟨⟨s_iconst dX0_become_102 (by decide +kernel), s_mo_push _ _⟩, (List.forall_mem_cons.mpr ⟨⟨s_bipush dX0_become_103 (by decide +kernel), s_mo_push _ _⟩, (List.forall_mem_cons.mpr ⟨⟨s_copy w_464 w_an w_as w_ai dX0_become_105, s_mo_copy _⟩, (List.forall_mem_cons.mpr ⟨⟨s_ldAn dX0_become_108 rfl, s_mo_ldA _ _⟩, (List.forall_mem_cons.mpr ⟨⟨s_getf (ci := 0) (k := 10) rfl (by decide) inX0 w_95 dX0_become_109, s_mo_getf _ _ _⟩, (List.forall_mem_cons.mpr ⟨⟨s_iconst dX0_become_112 (by decide +kernel), s_mo_push _ _⟩, (List.forall_mem_cons.mpr ⟨⟨s_ldAn dX0_become_113 rfl, s_mo_ldA _ _⟩, (List.forall_mem_cons.mpr ⟨⟨s_getf (ci := 0) (k := 10) rfl (by decide) inX0 w_95 dX0_become_114, s_mo_getf _ _ _⟩, (List.forall_mem_cons.mpr ⟨⟨s_iconst dX0_become_117 (by decide +kernel), s_mo_push _ _⟩, (List.forall_mem_cons.mpr ⟨⟨s_bipush dX0_become_118 (by decide +kernel), s_mo_push _ _⟩, (List.forall_mem_cons.mpr ⟨⟨s_copy w_464 w_an w_as w_ai dX0_become_120, s_mo_copy _⟩, (List.forall_mem_cons.mpr ⟨⟨s_ldAn dX0_become_123 rfl, s_mo_ldA _ _⟩, (List.forall_mem_cons.mpr ⟨⟨s_getf (ci := 0) (k := 11) rfl (by decide) inX0 w_100 dX0_become_124, s_mo_getf _ _ _⟩, (List.forall_mem_cons.mpr ⟨⟨s_iconst dX0_become_127 (by decide +kernel), s_mo_push _ _⟩, (fun _ h => absurd h List.not_mem_nil)⟩)⟩)⟩)⟩)⟩)⟩)⟩)⟩)⟩)⟩)⟩)⟩)⟩)⟩)⟩)⟩)⟩)⟩)⟩)⟩)⟩)⟩)⟩)⟩)⟩)⟩)⟩)⟩)⟩)⟩)⟩)⟩)⟩)⟩)
set_option maxRecDepth 20000 in
theorem kb_2_2 : ∀ q ∈ tb_2_2, s_atx 2 yX0_become cX0_become q.1 q.2 := (List.forall_mem_cons.mpr ⟨⟨s_ldAn dX0_become_128 rfl, s_mo_ldA _ _⟩, (List.forall_mem_cons.mpr ⟨⟨s_getf (ci := 0) (k := 11) rfl (by decide) inX0 w_100 dX0_become_129, s_mo_getf _ _ _⟩, (List.forall_mem_cons.mpr ⟨⟨s_iconst dX0_become_132 (by decide +kernel), s_mo_push _ _⟩, (List.forall_mem_cons.mpr ⟨⟨s_bipush dX0_become_133 (by decide +kernel), s_mo_push _ _⟩, (List.forall_mem_cons.mpr ⟨⟨s_copy w_464 w_an w_as w_ai dX0_become_135, s_mo_copy _⟩, (List.forall_mem_cons.mpr ⟨⟨s_ldAn dX0_become_138 rfl, s_mo_ldA _ _⟩, (List.forall_mem_cons.mpr ⟨⟨s_ldAn dX0_become_139 rfl, s_mo_ldA _ _⟩, (List.forall_mem_cons.mpr ⟨⟨s_getf (ci := 0) (k := 12) rfl (by decide) inX0 w_104 dX0_become_140, s_mo_getf _ _ _⟩, (List.forall_mem_cons.mpr ⟨⟨s_putI (ci := 0) (k := 12) rfl (by decide) inX0 tyX0_ok nmX0 rfl rfl w_104 dX0_become_143, s_mo_putI _ _ _⟩, (List.forall_mem_cons.mpr ⟨⟨s_ldAn dX0_become_146 rfl, s_mo_ldA _ _⟩, (List.forall_mem_cons.mpr ⟨⟨s_getf (ci := 0) (k := 13) rfl (by decide) inX0 w_107 dX0_become_147, s_mo_getf _ _ _⟩, (List.forall_mem_cons.mpr ⟨⟨s_iconst dX0_become_150 (by decide +kernel), s_mo_push _ _⟩, (List.forall_mem_cons.mpr ⟨⟨s_ldAn dX0_become_151 rfl, s_mo_ldA _ _⟩, (List.forall_mem_cons.mpr ⟨⟨s_getf (ci := 0) (k := 13) rfl (by decide) inX0 w_107 dX0_become_152, s_mo_getf _ _ _⟩, (List.forall_mem_cons.mpr ⟨⟨s_iconst dX0_become_155 (by decide +kernel), s_mo_push _ _⟩, (List.forall_mem_cons.mpr ⟨⟨s_ldAn dX0_become_156 rfl, s_mo_ldA _ _⟩, (List.forall_mem_cons.mpr ⟨⟨s_getf (ci := 0) (k := 13) rfl (by decide) inX0 w_107 dX0_become_157, s_mo_getf _ _ _⟩, (List.forall_mem_cons.mpr ⟨⟨s_alen dX0_become_160, s_mo_alen _⟩, (List.forall_mem_cons.mpr ⟨⟨s_copy w_464 w_an w_as w_ai dX0_become_161, s_mo_copy _⟩, (List.forall_mem_cons.mpr ⟨⟨s_ldAn dX0_become_164 rfl, s_mo_ldA _ _⟩, (List.forall_mem_cons.mpr ⟨⟨s_ldAn dX0_become_165 rfl, s_mo_ldA _ _⟩, (List.forall_mem_cons.mpr ⟨⟨s_getf (ci := 0) (k := 14) rfl (by decide) inX0 w_111 dX0_become_166, s_mo_getf _ _ _⟩, (List.forall_mem_cons.mpr ⟨⟨s_putI (ci := 0) (k := 14) rfl (by decide) inX0 tyX0_ok nmX0 rfl rfl w_111 dX0_become_169, s_mo_putI _ _ _⟩, (List.forall_mem_cons.mpr ⟨⟨s_ldAn dX0_become_172 rfl, s_mo_ldA _ _⟩, (List.forall_mem_cons.mpr ⟨⟨s_getf (ci := 0) (k := 15) rfl (by decide) inX0 w_114 dX0_become_173, s_mo_getf _ _ _⟩, (List.forall_mem_cons.mpr ⟨⟨s_iconst dX0_become_176 (by decide +kernel), s_mo_push _ _⟩, (List.forall_mem_cons.mpr ⟨⟨s_ldAn dX0_become_177 rfl, s_mo_ldA _ _⟩, (List.forall_mem_cons.mpr ⟨⟨s_getf (ci := 0) (k := 15) rfl (by decide) inX0 w_114 dX0_become_178, s_mo_getf _ _ _⟩, (List.forall_mem_cons.mpr ⟨⟨s_iconst dX0_become_181 (by decide +kernel), s_mo_push _ _⟩, (List.forall_mem_cons.mpr ⟨⟨s_ldAn dX0_become_182 rfl, s_mo_ldA _ _⟩, (List.forall_mem_cons.mpr ⟨⟨s_getf (ci := 0) (k := 15) rfl (by decide) inX0 w_114 dX0_become_183, s_mo_getf _ _ _⟩, (List.forall_mem_cons.mpr ⟨⟨s_alen dX0_become_186, s_mo_alen _⟩, (List.forall_mem_cons.mpr ⟨⟨s_copy w_464 w_an w_as w_ai dX0_become_187, s_mo_copy _⟩, (List.forall_mem_cons.mpr ⟨⟨s_ldAn dX0_become_190 rfl, s_mo_ldA _ _⟩, (List.forall_mem_cons.mpr ⟨⟨s_ldAn dX0_become_191 rfl, s_mo_ldA _ _⟩, (fun _ h => absurd h List.not_mem_nil)⟩)⟩)⟩)⟩)⟩)⟩)⟩)⟩)⟩)⟩)⟩)⟩)⟩)⟩)⟩)⟩)⟩)⟩)⟩)⟩)⟩)⟩)⟩)⟩)⟩)⟩)⟩)⟩)⟩)⟩)⟩)⟩)⟩)⟩)⟩)
set_option maxRecDepth 20000 in
theorem kb_2_3 : ∀ q ∈ tb_2_3, s_atx 2 yX0_become cX0_become q.1 q.2 := (List.forall_mem_cons.mpr ⟨⟨s_getf (ci := 0) (k := 16) rfl (by decide) inX0 w_117 dX0_become_192, s_mo_getf _ _ _⟩, (List.forall_mem_cons.mpr ⟨⟨s_putI (ci := 0) (k := 16) rfl (by decide) inX0 tyX0_ok nmX0 rfl rfl w_117 dX0_become_195, s_mo_putI _ _ _⟩, (List.forall_mem_cons.mpr ⟨⟨s_ldAn dX0_become_198 rfl, s_mo_ldA _ _⟩, (List.forall_mem_cons.mpr ⟨⟨s_ldAn dX0_become_199 rfl, s_mo_ldA _ _⟩, (List.forall_mem_cons.mpr ⟨⟨s_getf (ci := 0) (k := 17) rfl (by decide) inX0 w_120 dX0_become_200, s_mo_getf _ _ _⟩, (List.forall_mem_cons.mpr ⟨⟨s_putI (ci := 0) (k := 17) rfl (by decide) inX0 tyX0_ok nmX0 rfl rfl w_120 dX0_become_203, s_mo_putI _ _ _⟩, (List.forall_mem_cons.mpr ⟨s_r0 mk_2 dX0_become_206, (fun _ h => absurd h List.not_mem_nil)⟩)⟩)⟩)⟩)⟩)⟩)⟩)
theorem km_2 : ∀ t ∈ tm_2, s_tok 2 t := (List.forall_mem_cons.mpr ⟨s_lift mk_2 kb_2_0, (List.forall_mem_cons.mpr ⟨s_lift mk_2 kb_2_1, (List.forall_mem_cons.mpr ⟨s_lift mk_2 kb_2_2, (List.forall_mem_cons.mpr ⟨s_lift mk_2 kb_2_3, (fun _ h => absurd h List.not_mem_nil)⟩)⟩)⟩)⟩)
theorem dX0_beside_0 : decode cX0_beside 0 = .ok (.iload_n 2, 1) := by decide +kernel
theorem dX0_beside_1 : decode cX0_beside 1 = .ok (.tableswitch 112 0 3 #[31, 50, 69, 93], 31) := by decide +kernel
theorem dX0_beside_32 : decode cX0_beside 32 = .ok (.iload_n 1, 1) := by decide +kernel
theorem dX0_beside_33 : decode cX0_beside 33 = .ok (.aload_n 0, 1) := by decide +kernel
theorem dX0_beside_34 : decode cX0_beside 34 = .ok (.getfield 50, 3) := by decide +kernel
theorem dX0_beside_37 : decode cX0_beside 37 = .ok (.if_icmp .lt 12, 3) := by decide +kernel
theorem dX0_beside_40 : decode cX0_beside 40 = .ok (.iload_n 1, 1) := by decide +kernel
theorem dX0_beside_41 : decode cX0_beside 41 = .ok (.aload_n 0, 1) := by decide +kernel
theorem dX0_beside_42 : decode cX0_beside 42 = .ok (.getfield 50, 3) := by decide +kernel
theorem dX0_beside_45 : decode cX0_beside 45 = .ok (.isub, 1) := by decide +kernel
theorem dX0_beside_46 : decode cX0_beside 46 = .ok (.goto 4, 3) := by decide +kernel
theorem dX0_beside_49 : decode cX0_beside 49 = .ok (.iconst (-1), 1) := by decide +kernel
theorem dX0_beside_50 : decode cX0_beside 50 = .ok (.ireturn, 1) := by decide +kernel
theorem dX0_beside_51 : decode cX0_beside 51 = .ok (.aload_n 0, 1) := by decide +kernel
theorem dX0_beside_52 : decode cX0_beside 52 = .ok (.getfield 65, 3) := by decide +kernel
theorem dX0_beside_55 : decode cX0_beside 55 = .ok (.iload_n 1, 1) := by decide +kernel
theorem dX0_beside_56 : decode cX0_beside 56 = .ok (.ishr, 1) := by decide +kernel
theorem dX0_beside_57 : decode cX0_beside 57 = .ok (.iconst 1, 1) := by decide +kernel
theorem dX0_beside_58 : decode cX0_beside 58 = .ok (.iand, 1) := by decide +kernel
theorem dX0_beside_59 : decode cX0_beside 59 = .ok (.ifCond .ne 9, 3) := by decide +kernel
theorem dX0_beside_62 : decode cX0_beside 62 = .ok (.iload_n 1, 1) := by decide +kernel
theorem dX0_beside_63 : decode cX0_beside 63 = .ok (.iconst 1, 1) := by decide +kernel
theorem dX0_beside_64 : decode cX0_beside 64 = .ok (.iadd, 1) := by decide +kernel
theorem dX0_beside_65 : decode cX0_beside 65 = .ok (.goto 4, 3) := by decide +kernel
theorem dX0_beside_68 : decode cX0_beside 68 = .ok (.iconst (-1), 1) := by decide +kernel
theorem dX0_beside_69 : decode cX0_beside 69 = .ok (.ireturn, 1) := by decide +kernel
theorem dX0_beside_70 : decode cX0_beside 70 = .ok (.iload_n 1, 1) := by decide +kernel
theorem dX0_beside_71 : decode cX0_beside 71 = .ok (.aload_n 0, 1) := by decide +kernel
theorem dX0_beside_72 : decode cX0_beside 72 = .ok (.getfield 50, 3) := by decide +kernel
theorem dX0_beside_75 : decode cX0_beside 75 = .ok (.iadd, 1) := by decide +kernel
theorem dX0_beside_76 : decode cX0_beside 76 = .ok (.aload_n 0, 1) := by decide +kernel
theorem dX0_beside_77 : decode cX0_beside 77 = .ok (.getfield 56, 3) := by decide +kernel
theorem dX0_beside_80 : decode cX0_beside 80 = .ok (.if_icmp .ge 12, 3) := by decide +kernel
theorem dX0_beside_83 : decode cX0_beside 83 = .ok (.iload_n 1, 1) := by decide +kernel
theorem dX0_beside_84 : decode cX0_beside 84 = .ok (.aload_n 0, 1) := by decide +kernel
theorem dX0_beside_85 : decode cX0_beside 85 = .ok (.getfield 50, 3) := by decide +kernel
theorem dX0_beside_88 : decode cX0_beside 88 = .ok (.iadd, 1) := by decide +kernel
theorem dX0_beside_89 : decode cX0_beside 89 = .ok (.goto 4, 3) := by decide +kernel
theorem dX0_beside_92 : decode cX0_beside 92 = .ok (.iconst (-1), 1) := by decide +kernel
theorem dX0_beside_93 : decode cX0_beside 93 = .ok (.ireturn, 1) := by decide +kernel
theorem dX0_beside_94 : decode cX0_beside 94 = .ok (.aload_n 0, 1) := by decide +kernel
theorem dX0_beside_95 : decode cX0_beside 95 = .ok (.getfield 62, 3) := by decide +kernel
theorem dX0_beside_98 : decode cX0_beside 98 = .ok (.iload_n 1, 1) := by decide +kernel
theorem dX0_beside_99 : decode cX0_beside 99 = .ok (.ishr, 1) := by decide +kernel
theorem dX0_beside_100 : decode cX0_beside 100 = .ok (.iconst 1, 1) := by decide +kernel
theorem dX0_beside_101 : decode cX0_beside 101 = .ok (.iand, 1) := by decide +kernel
theorem dX0_beside_102 : decode cX0_beside 102 = .ok (.ifCond .ne 9, 3) := by decide +kernel
theorem dX0_beside_105 : decode cX0_beside 105 = .ok (.iload_n 1, 1) := by decide +kernel
theorem dX0_beside_106 : decode cX0_beside 106 = .ok (.iconst 1, 1) := by decide +kernel
theorem dX0_beside_107 : decode cX0_beside 107 = .ok (.isub, 1) := by decide +kernel
theorem dX0_beside_108 : decode cX0_beside 108 = .ok (.goto 4, 3) := by decide +kernel
theorem dX0_beside_111 : decode cX0_beside 111 = .ok (.iconst (-1), 1) := by decide +kernel
theorem dX0_beside_112 : decode cX0_beside 112 = .ok (.ireturn, 1) := by decide +kernel
theorem dX0_beside_113 : decode cX0_beside 113 = .ok (.iconst (-1), 1) := by decide +kernel
theorem dX0_beside_114 : decode cX0_beside 114 = .ok (.ireturn, 1) := by decide +kernel
set_option maxRecDepth 20000 in
theorem kb_3_0 : ∀ q ∈ tb_3_0, s_atx 3 yX0_beside cX0_beside q.1 q.2 := (List.forall_mem_cons.mpr ⟨⟨s_ldIn dX0_beside_0 rfl, s_mo_ldI _ _⟩, (List.forall_mem_cons.mpr ⟨⟨s_table dX0_beside_1 (by decide) (by decide) (by decide +kernel), s_mo_table _ _ _⟩, (List.forall_mem_cons.mpr ⟨⟨s_ldIn dX0_beside_32 rfl, s_mo_ldI _ _⟩, (List.forall_mem_cons.mpr ⟨⟨s_ldAn dX0_beside_33 rfl, s_mo_ldA _ _⟩, (List.forall_mem_cons.mpr ⟨⟨s_getf (ci := 0) (k := 0) rfl (by decide) inX0 w_50 dX0_beside_34, s_mo_getf _ _ _⟩, (List.forall_mem_cons.mpr ⟨⟨s_iclt dX0_beside_37 (by decide), s_mo_iclt _ _⟩, (List.forall_mem_cons.mpr ⟨⟨s_ldIn dX0_beside_40 rfl, s_mo_ldI _ _⟩, (List.forall_mem_cons.mpr ⟨⟨s_ldAn dX0_beside_41 rfl, s_mo_ldA _ _⟩, (List.forall_mem_cons.mpr ⟨⟨s_getf (ci := 0) (k := 0) rfl (by decide) inX0 w_50 dX0_beside_42, s_mo_getf _ _ _⟩, (List.forall_mem_cons.mpr ⟨⟨s_isub dX0_beside_45, s_mo_bin _ _⟩, (List.forall_mem_cons.mpr ⟨⟨s_goto dX0_beside_46 (by decide), s_mo_goto _⟩, (List.forall_mem_cons.mpr ⟨⟨s_iconst dX0_beside_49 (by decide +kernel), s_mo_push _ _⟩, (List.forall_mem_cons.mpr ⟨s_r1 mk_3 dX0_beside_50, (List.forall_mem_cons.mpr ⟨⟨s_ldAn dX0_beside_51 rfl, s_mo_ldA _ _⟩, (List.forall_mem_cons.mpr ⟨⟨s_getf (ci := 0) (k := 5) rfl (by decide) inX0 w_70 dX0_beside_52, s_mo_getf _ _ _⟩, (List.forall_mem_cons.mpr ⟨⟨s_ldIn dX0_beside_55 rfl, s_mo_ldI _ _⟩, (List.forall_mem_cons.mpr ⟨⟨s_ishr dX0_beside_56, s_mo_bin _ _⟩, (List.forall_mem_cons.mpr ⟨⟨s_iconst dX0_beside_57 (by decide +kernel), s_mo_push _ _⟩, (List.forall_mem_cons.mpr ⟨⟨s_iand dX0_beside_58, s_mo_bin _ _⟩, (List.forall_mem_cons.mpr ⟨⟨s_ifne dX0_beside_59 (by decide), s_mo_ifne _ _⟩, (List.forall_mem_cons.mpr ⟨⟨s_ldIn dX0_beside_62 rfl, s_mo_ldI _ _⟩, (List.forall_mem_cons.mpr ⟨⟨s_iconst dX0_beside_63 (by decide +kernel), s_mo_push _ _⟩, (fun _ h => absurd h List.not_mem_nil)⟩)⟩)⟩)⟩)⟩)⟩)⟩)⟩)⟩)⟩)⟩)⟩)⟩)⟩)⟩)⟩)⟩)⟩)⟩)⟩)⟩)⟩)
set_option maxRecDepth 20000 in
theorem kb_3_1 : ∀ q ∈ tb_3_1, s_atx 3 yX0_beside cX0_beside q.1 q.2 := (List.forall_mem_cons.mpr ⟨⟨s_iadd dX0_beside_64, s_mo_bin _ _⟩, (List.forall_mem_cons.mpr ⟨⟨s_goto dX0_beside_65 (by decide), s_mo_goto _⟩, (List.forall_mem_cons.mpr ⟨⟨s_iconst dX0_beside_68 (by decide +kernel), s_mo_push _ _⟩, (List.forall_mem_cons.mpr ⟨s_r1 mk_3 dX0_beside_69, (List.forall_mem_cons.mpr ⟨⟨s_ldIn dX0_beside_70 rfl, s_mo_ldI _ _⟩, (List.forall_mem_cons.mpr ⟨⟨s_ldAn dX0_beside_71 rfl, s_mo_ldA _ _⟩, (List.forall_mem_cons.mpr ⟨⟨s_getf (ci := 0) (k := 0) rfl (by decide) inX0 w_50 dX0_beside_72, s_mo_getf _ _ _⟩, (List.forall_mem_cons.mpr ⟨⟨s_iadd dX0_beside_75, s_mo_bin _ _⟩, (List.forall_mem_cons.mpr ⟨⟨s_ldAn dX0_beside_76 rfl, s_mo_ldA _ _⟩, (List.forall_mem_cons.mpr ⟨⟨s_getf (ci := 0) (k := 2) rfl (by decide) inX0 w_57 dX0_beside_77, s_mo_getf _ _ _⟩, (List.forall_mem_cons.mpr ⟨⟨s_icge dX0_beside_80 (by decide), s_mo_icge _ _⟩, (List.forall_mem_cons.mpr ⟨⟨s_ldIn dX0_beside_83 rfl, s_mo_ldI _ _⟩, (List.forall_mem_cons.mpr ⟨⟨s_ldAn dX0_beside_84 rfl, s_mo_ldA _ _⟩, (List.forall_mem_cons.mpr ⟨⟨s_getf (ci := 0) (k := 0) rfl (by decide) inX0 w_50 dX0_beside_85, s_mo_getf _ _ _⟩, (List.forall_mem_cons.mpr ⟨⟨s_iadd dX0_beside_88, s_mo_bin _ _⟩, (List.forall_mem_cons.mpr ⟨⟨s_goto dX0_beside_89 (by decide), s_mo_goto _⟩, (List.forall_mem_cons.mpr ⟨⟨s_iconst dX0_beside_92 (by decide +kernel), s_mo_push _ _⟩, (List.forall_mem_cons.mpr ⟨s_r1 mk_3 dX0_beside_93, (List.forall_mem_cons.mpr ⟨⟨s_ldAn dX0_beside_94 rfl, s_mo_ldA _ _⟩, (List.forall_mem_cons.mpr ⟨⟨s_getf (ci := 0) (k := 4) rfl (by decide) inX0 w_69 dX0_beside_95, s_mo_getf _ _ _⟩, (List.forall_mem_cons.mpr ⟨⟨s_ldIn dX0_beside_98 rfl, s_mo_ldI _ _⟩, (List.forall_mem_cons.mpr ⟨⟨s_ishr dX0_beside_99, s_mo_bin _ _⟩, (List.forall_mem_cons.mpr ⟨⟨s_iconst dX0_beside_100 (by decide +kernel), s_mo_push _ _⟩, (List.forall_mem_cons.mpr ⟨⟨s_iand dX0_beside_101, s_mo_bin _ _⟩, (List.forall_mem_cons.mpr ⟨⟨s_ifne dX0_beside_102 (by decide), s_mo_ifne _ _⟩, (List.forall_mem_cons.mpr ⟨⟨s_ldIn dX0_beside_105 rfl, s_mo_ldI _ _⟩, (List.forall_mem_cons.mpr ⟨⟨s_iconst dX0_beside_106 (by decide +kernel), s_mo_push _ _⟩, (List.forall_mem_cons.mpr ⟨⟨s_isub dX0_beside_107, s_mo_bin _ _⟩, (List.forall_mem_cons.mpr ⟨⟨s_goto dX0_beside_108 (by decide), s_mo_goto _⟩, (List.forall_mem_cons.mpr ⟨⟨s_iconst dX0_beside_111 (by decide +kernel), s_mo_push _ _⟩, (List.forall_mem_cons.mpr ⟨s_r1 mk_3 dX0_beside_112, (List.forall_mem_cons.mpr ⟨⟨s_iconst dX0_beside_113 (by decide +kernel), s_mo_push _ _⟩, (List.forall_mem_cons.mpr ⟨s_r1 mk_3 dX0_beside_114, (fun _ h => absurd h List.not_mem_nil)⟩)⟩)⟩)⟩)⟩)⟩)⟩)⟩)⟩)⟩)⟩)⟩)⟩)⟩)⟩)⟩)⟩)⟩)⟩)⟩)⟩)⟩)⟩)⟩)⟩)⟩)⟩)⟩)⟩)⟩)⟩)⟩)⟩)
theorem km_3 : ∀ t ∈ tm_3, s_tok 3 t := (List.forall_mem_cons.mpr ⟨s_lift mk_3 kb_3_0, (List.forall_mem_cons.mpr ⟨s_lift mk_3 kb_3_1, (fun _ h => absurd h List.not_mem_nil)⟩)⟩)
theorem dX0_allBeside_0 : decode cX0_allBeside 0 = .ok (.iload_n 1, 1) := by decide +kernel
theorem dX0_allBeside_1 : decode cX0_allBeside 1 = .ok (.aload_n 0, 1) := by decide +kernel
theorem dX0_allBeside_2 : decode cX0_allBeside 2 = .ok (.getfield 65, 3) := by decide +kernel
theorem dX0_allBeside_5 : decode cX0_allBeside 5 = .ok (.iconst (-1), 1) := by decide +kernel
theorem dX0_allBeside_6 : decode cX0_allBeside 6 = .ok (.ixor, 1) := by decide +kernel
theorem dX0_allBeside_7 : decode cX0_allBeside 7 = .ok (.iand, 1) := by decide +kernel
theorem dX0_allBeside_8 : decode cX0_allBeside 8 = .ok (.iconst 1, 1) := by decide +kernel
theorem dX0_allBeside_9 : decode cX0_allBeside 9 = .ok (.ishl, 1) := by decide +kernel
theorem dX0_allBeside_10 : decode cX0_allBeside 10 = .ok (.istore_n 2, 1) := by decide +kernel
theorem dX0_allBeside_11 : decode cX0_allBeside 11 = .ok (.iload_n 1, 1) := by decide +kernel
theorem dX0_allBeside_12 : decode cX0_allBeside 12 = .ok (.aload_n 0, 1) := by decide +kernel
theorem dX0_allBeside_13 : decode cX0_allBeside 13 = .ok (.getfield 62, 3) := by decide +kernel
theorem dX0_allBeside_16 : decode cX0_allBeside 16 = .ok (.iconst (-1), 1) := by decide +kernel
theorem dX0_allBeside_17 : decode cX0_allBeside 17 = .ok (.ixor, 1) := by decide +kernel
theorem dX0_allBeside_18 : decode cX0_allBeside 18 = .ok (.iand, 1) := by decide +kernel
theorem dX0_allBeside_19 : decode cX0_allBeside 19 = .ok (.iconst 1, 1) := by decide +kernel
theorem dX0_allBeside_20 : decode cX0_allBeside 20 = .ok (.ishr, 1) := by decide +kernel
theorem dX0_allBeside_21 : decode cX0_allBeside 21 = .ok (.istore_n 3, 1) := by decide +kernel
theorem dX0_allBeside_22 : decode cX0_allBeside 22 = .ok (.iload_n 1, 1) := by decide +kernel
theorem dX0_allBeside_23 : decode cX0_allBeside 23 = .ok (.aload_n 0, 1) := by decide +kernel
theorem dX0_allBeside_24 : decode cX0_allBeside 24 = .ok (.getfield 50, 3) := by decide +kernel
theorem dX0_allBeside_27 : decode cX0_allBeside 27 = .ok (.ishr, 1) := by decide +kernel
theorem dX0_allBeside_28 : decode cX0_allBeside 28 = .ok (.iload_n 2, 1) := by decide +kernel
theorem dX0_allBeside_29 : decode cX0_allBeside 29 = .ok (.ior, 1) := by decide +kernel
theorem dX0_allBeside_30 : decode cX0_allBeside 30 = .ok (.iload_n 1, 1) := by decide +kernel
theorem dX0_allBeside_31 : decode cX0_allBeside 31 = .ok (.aload_n 0, 1) := by decide +kernel
theorem dX0_allBeside_32 : decode cX0_allBeside 32 = .ok (.getfield 50, 3) := by decide +kernel
theorem dX0_allBeside_35 : decode cX0_allBeside 35 = .ok (.ishl, 1) := by decide +kernel
theorem dX0_allBeside_36 : decode cX0_allBeside 36 = .ok (.ior, 1) := by decide +kernel
theorem dX0_allBeside_37 : decode cX0_allBeside 37 = .ok (.iload_n 3, 1) := by decide +kernel
theorem dX0_allBeside_38 : decode cX0_allBeside 38 = .ok (.ior, 1) := by decide +kernel
theorem dX0_allBeside_39 : decode cX0_allBeside 39 = .ok (.aload_n 0, 1) := by decide +kernel
theorem dX0_allBeside_40 : decode cX0_allBeside 40 = .ok (.getfield 59, 3) := by decide +kernel
theorem dX0_allBeside_43 : decode cX0_allBeside 43 = .ok (.iand, 1) := by decide +kernel
theorem dX0_allBeside_44 : decode cX0_allBeside 44 = .ok (.ireturn, 1) := by decide +kernel
set_option maxRecDepth 20000 in
theorem kb_4_0 : ∀ q ∈ tb_4_0, s_atx 4 yX0_allBeside cX0_allBeside q.1 q.2 := (List.forall_mem_cons.mpr ⟨⟨s_ldIn dX0_allBeside_0 rfl, s_mo_ldI _ _⟩, (List.forall_mem_cons.mpr ⟨⟨s_ldAn dX0_allBeside_1 rfl, s_mo_ldA _ _⟩, (List.forall_mem_cons.mpr ⟨⟨s_getf (ci := 0) (k := 5) rfl (by decide) inX0 w_70 dX0_allBeside_2, s_mo_getf _ _ _⟩, (List.forall_mem_cons.mpr ⟨⟨s_iconst dX0_allBeside_5 (by decide +kernel), s_mo_push _ _⟩, (List.forall_mem_cons.mpr ⟨⟨s_ixor dX0_allBeside_6, s_mo_bin _ _⟩, (List.forall_mem_cons.mpr ⟨⟨s_iand dX0_allBeside_7, s_mo_bin _ _⟩, (List.forall_mem_cons.mpr ⟨⟨s_iconst dX0_allBeside_8 (by decide +kernel), s_mo_push _ _⟩, (List.forall_mem_cons.mpr ⟨⟨s_ishl dX0_allBeside_9, s_mo_bin _ _⟩, (List.forall_mem_cons.mpr ⟨⟨s_stIn dX0_allBeside_10 rfl, s_mo_stI _ _⟩, (List.forall_mem_cons.mpr ⟨⟨s_ldIn dX0_allBeside_11 rfl, s_mo_ldI _ _⟩, (List.forall_mem_cons.mpr ⟨⟨s_ldAn dX0_allBeside_12 rfl, s_mo_ldA _ _⟩, (List.forall_mem_cons.mpr ⟨⟨s_getf (ci := 0) (k := 4) rfl (by decide) inX0 w_69 dX0_allBeside_13, s_mo_getf _ _ _⟩, (List.forall_mem_cons.mpr ⟨⟨s_iconst dX0_allBeside_16 (by decide +kernel), s_mo_push _ _⟩, (List.forall_mem_cons.mpr ⟨⟨s_ixor dX0_allBeside_17, s_mo_bin _ _⟩, (List.forall_mem_cons.mpr ⟨⟨s_iand dX0_allBeside_18, s_mo_bin _ _⟩, (List.forall_mem_cons.mpr ⟨⟨s_iconst dX0_allBeside_19 (by decide +kernel), s_mo_push _ _⟩, (List.forall_mem_cons.mpr ⟨⟨s_ishr dX0_allBeside_20, s_mo_bin _ _⟩, (List.forall_mem_cons.mpr ⟨⟨s_stIn dX0_allBeside_21 rfl, s_mo_stI _ _⟩, (List.forall_mem_cons.mpr ⟨⟨s_ldIn dX0_allBeside_22 rfl, s_mo_ldI _ _⟩, (List.forall_mem_cons.mpr ⟨⟨s_ldAn dX0_allBeside_23 rfl, s_mo_ldA _ _⟩, (List.forall_mem_cons.mpr ⟨⟨s_getf (ci := 0) (k := 0) rfl (by decide) inX0 w_50 dX0_allBeside_24, s_mo_getf _ _ _⟩, (List.forall_mem_cons.mpr ⟨⟨s_ishr dX0_allBeside_27, s_mo_bin _ _⟩, (List.forall_mem_cons.mpr ⟨⟨s_ldIn dX0_allBeside_28 rfl, s_mo_ldI _ _⟩, (List.forall_mem_cons.mpr ⟨⟨s_ior dX0_allBeside_29, s_mo_bin _ _⟩, (List.forall_mem_cons.mpr ⟨⟨s_ldIn dX0_allBeside_30 rfl, s_mo_ldI _ _⟩, (List.forall_mem_cons.mpr ⟨⟨s_ldAn dX0_allBeside_31 rfl, s_mo_ldA _ _⟩, (List.forall_mem_cons.mpr ⟨⟨s_getf (ci := 0) (k := 0) rfl (by decide) inX0 w_50 dX0_allBeside_32, s_mo_getf _ _ _⟩, (List.forall_mem_cons.mpr ⟨⟨s_ishl dX0_allBeside_35, s_mo_bin _ _⟩, (List.forall_mem_cons.mpr ⟨⟨s_ior dX0_allBeside_36, s_mo_bin _ _⟩, (List.forall_mem_cons.mpr ⟨⟨s_ldIn dX0_allBeside_37 rfl, s_mo_ldI _ _⟩, (List.forall_mem_cons.mpr ⟨⟨s_ior dX0_allBeside_38, s_mo_bin _ _⟩, (List.forall_mem_cons.mpr ⟨⟨s_ldAn dX0_allBeside_39 rfl, s_mo_ldA _ _⟩, (List.forall_mem_cons.mpr ⟨⟨s_getf (ci := 0) (k := 3) rfl (by decide) inX0 w_64 dX0_allBeside_40, s_mo_getf _ _ _⟩, (List.forall_mem_cons.mpr ⟨⟨s_iand dX0_allBeside_43, s_mo_bin _ _⟩, (List.forall_mem_cons.mpr ⟨s_r1 mk_4 dX0_allBeside_44, (fun _ h => absurd h List.not_mem_nil)⟩)⟩)⟩)⟩)⟩)⟩)⟩)⟩)⟩)⟩)⟩)⟩)⟩)⟩)⟩)⟩)⟩)⟩)⟩)⟩)⟩)⟩)⟩)⟩)⟩)⟩)⟩)⟩)⟩)⟩)⟩)⟩)⟩)⟩)⟩)
theorem km_4 : ∀ t ∈ tm_4, s_tok 4 t := (List.forall_mem_cons.mpr ⟨s_lift mk_4 kb_4_0, (fun _ h => absurd h List.not_mem_nil)⟩)
theorem dX0_withCracks_0 : decode cX0_withCracks 0 = .ok (.iconst 0, 1) := by decide +kernel
theorem dX0_withCracks_1 : decode cX0_withCracks 1 = .ok (.istore_n 2, 1) := by decide +kernel
theorem dX0_withCracks_2 : decode cX0_withCracks 2 = .ok (.iconst 0, 1) := by decide +kernel
theorem dX0_withCracks_3 : decode cX0_withCracks 3 = .ok (.istore_n 3, 1) := by decide +kernel
theorem dX0_withCracks_4 : decode cX0_withCracks 4 = .ok (.iload_n 3, 1) := by decide +kernel
theorem dX0_withCracks_5 : decode cX0_withCracks 5 = .ok (.aload_n 0, 1) := by decide +kernel
theorem dX0_withCracks_6 : decode cX0_withCracks 6 = .ok (.getfield 56, 3) := by decide +kernel
theorem dX0_withCracks_9 : decode cX0_withCracks 9 = .ok (.if_icmp .ge 25, 3) := by decide +kernel
theorem dX0_withCracks_12 : decode cX0_withCracks 12 = .ok (.aload_n 0, 1) := by decide +kernel
theorem dX0_withCracks_13 : decode cX0_withCracks 13 = .ok (.getfield 21, 3) := by decide +kernel
theorem dX0_withCracks_16 : decode cX0_withCracks 16 = .ok (.iload_n 3, 1) := by decide +kernel
theorem dX0_withCracks_17 : decode cX0_withCracks 17 = .ok (.iaload, 1) := by decide +kernel
theorem dX0_withCracks_18 : decode cX0_withCracks 18 = .ok (.iload_n 1, 1) := by decide +kernel
theorem dX0_withCracks_19 : decode cX0_withCracks 19 = .ok (.if_icmp .lt 9, 3) := by decide +kernel
theorem dX0_withCracks_22 : decode cX0_withCracks 22 = .ok (.iload_n 2, 1) := by decide +kernel
theorem dX0_withCracks_23 : decode cX0_withCracks 23 = .ok (.iconst 1, 1) := by decide +kernel
theorem dX0_withCracks_24 : decode cX0_withCracks 24 = .ok (.iload_n 3, 1) := by decide +kernel
theorem dX0_withCracks_25 : decode cX0_withCracks 25 = .ok (.ishl, 1) := by decide +kernel
theorem dX0_withCracks_26 : decode cX0_withCracks 26 = .ok (.ior, 1) := by decide +kernel
theorem dX0_withCracks_27 : decode cX0_withCracks 27 = .ok (.istore_n 2, 1) := by decide +kernel
theorem dX0_withCracks_28 : decode cX0_withCracks 28 = .ok (.iinc 3 1, 3) := by decide +kernel
theorem dX0_withCracks_31 : decode cX0_withCracks 31 = .ok (.goto (-27), 3) := by decide +kernel
theorem dX0_withCracks_34 : decode cX0_withCracks 34 = .ok (.iload_n 2, 1) := by decide +kernel
theorem dX0_withCracks_35 : decode cX0_withCracks 35 = .ok (.ireturn, 1) := by decide +kernel
set_option maxRecDepth 20000 in
theorem kb_5_0 : ∀ q ∈ tb_5_0, s_atx 5 yX0_withCracks cX0_withCracks q.1 q.2 := (List.forall_mem_cons.mpr ⟨⟨s_iconst dX0_withCracks_0 (by decide +kernel), s_mo_push _ _⟩, (List.forall_mem_cons.mpr ⟨⟨s_stIn dX0_withCracks_1 rfl, s_mo_stI _ _⟩, (List.forall_mem_cons.mpr ⟨⟨s_iconst dX0_withCracks_2 (by decide +kernel), s_mo_push _ _⟩, (List.forall_mem_cons.mpr ⟨⟨s_stIn dX0_withCracks_3 rfl, s_mo_stI _ _⟩, (List.forall_mem_cons.mpr ⟨⟨s_ldIn dX0_withCracks_4 rfl, s_mo_ldI _ _⟩, (List.forall_mem_cons.mpr ⟨⟨s_ldAn dX0_withCracks_5 rfl, s_mo_ldA _ _⟩, (List.forall_mem_cons.mpr ⟨⟨s_getf (ci := 0) (k := 2) rfl (by decide) inX0 w_57 dX0_withCracks_6, s_mo_getf _ _ _⟩, (List.forall_mem_cons.mpr ⟨⟨s_icge dX0_withCracks_9 (by decide), s_mo_icge _ _⟩, (List.forall_mem_cons.mpr ⟨⟨s_ldAn dX0_withCracks_12 rfl, s_mo_ldA _ _⟩, (List.forall_mem_cons.mpr ⟨⟨s_getf (ci := 0) (k := 9) rfl (by decide) inX0 w_88 dX0_withCracks_13, s_mo_getf _ _ _⟩, (List.forall_mem_cons.mpr ⟨⟨s_ldIn dX0_withCracks_16 rfl, s_mo_ldI _ _⟩, (List.forall_mem_cons.mpr ⟨⟨s_iald dX0_withCracks_17, s_mo_iald _⟩, (List.forall_mem_cons.mpr ⟨⟨s_ldIn dX0_withCracks_18 rfl, s_mo_ldI _ _⟩, (List.forall_mem_cons.mpr ⟨⟨s_iclt dX0_withCracks_19 (by decide), s_mo_iclt _ _⟩, (List.forall_mem_cons.mpr ⟨⟨s_ldIn dX0_withCracks_22 rfl, s_mo_ldI _ _⟩, (List.forall_mem_cons.mpr ⟨⟨s_iconst dX0_withCracks_23 (by decide +kernel), s_mo_push _ _⟩, (List.forall_mem_cons.mpr ⟨⟨s_ldIn dX0_withCracks_24 rfl, s_mo_ldI _ _⟩, (List.forall_mem_cons.mpr ⟨⟨s_ishl dX0_withCracks_25, s_mo_bin _ _⟩, (List.forall_mem_cons.mpr ⟨⟨s_ior dX0_withCracks_26, s_mo_bin _ _⟩, (List.forall_mem_cons.mpr ⟨⟨s_stIn dX0_withCracks_27 rfl, s_mo_stI _ _⟩, (List.forall_mem_cons.mpr ⟨⟨s_inc dX0_withCracks_28 (by decide +kernel), s_mo_inc _ _ _⟩, (List.forall_mem_cons.mpr ⟨⟨s_goto dX0_withCracks_31 (by decide), s_mo_goto _⟩, (List.forall_mem_cons.mpr ⟨⟨s_ldIn dX0_withCracks_34 rfl, s_mo_ldI _ _⟩, (List.forall_mem_cons.mpr ⟨s_r1 mk_5 dX0_withCracks_35, (fun _ h => absurd h List.not_mem_nil)⟩)⟩)⟩)⟩)⟩)⟩)⟩)⟩)⟩)⟩)⟩)⟩)⟩)⟩)⟩)⟩)⟩)⟩)⟩)⟩)⟩)⟩)⟩)⟩)
theorem km_5 : ∀ t ∈ tm_5, s_tok 5 t := (List.forall_mem_cons.mpr ⟨s_lift mk_5 kb_5_0, (fun _ h => absurd h List.not_mem_nil)⟩)
theorem dX0_sumOf_0 : decode cX0_sumOf 0 = .ok (.iconst 0, 1) := by decide +kernel
theorem dX0_sumOf_1 : decode cX0_sumOf 1 = .ok (.istore_n 2, 1) := by decide +kernel
theorem dX0_sumOf_2 : decode cX0_sumOf 2 = .ok (.iconst 0, 1) := by decide +kernel
theorem dX0_sumOf_3 : decode cX0_sumOf 3 = .ok (.istore_n 3, 1) := by decide +kernel
theorem dX0_sumOf_4 : decode cX0_sumOf 4 = .ok (.iload_n 3, 1) := by decide +kernel
theorem dX0_sumOf_5 : decode cX0_sumOf 5 = .ok (.aload_n 0, 1) := by decide +kernel
theorem dX0_sumOf_6 : decode cX0_sumOf 6 = .ok (.getfield 56, 3) := by decide +kernel
theorem dX0_sumOf_9 : decode cX0_sumOf 9 = .ok (.if_icmp .ge 15, 3) := by decide +kernel
theorem dX0_sumOf_12 : decode cX0_sumOf 12 = .ok (.iload_n 2, 1) := by decide +kernel
theorem dX0_sumOf_13 : decode cX0_sumOf 13 = .ok (.aload_n 1, 1) := by decide +kernel
theorem dX0_sumOf_14 : decode cX0_sumOf 14 = .ok (.iload_n 3, 1) := by decide +kernel
theorem dX0_sumOf_15 : decode cX0_sumOf 15 = .ok (.iaload, 1) := by decide +kernel
theorem dX0_sumOf_16 : decode cX0_sumOf 16 = .ok (.iadd, 1) := by decide +kernel
theorem dX0_sumOf_17 : decode cX0_sumOf 17 = .ok (.istore_n 2, 1) := by decide +kernel
theorem dX0_sumOf_18 : decode cX0_sumOf 18 = .ok (.iinc 3 1, 3) := by decide +kernel
theorem dX0_sumOf_21 : decode cX0_sumOf 21 = .ok (.goto (-17), 3) := by decide +kernel
theorem dX0_sumOf_24 : decode cX0_sumOf 24 = .ok (.iload_n 2, 1) := by decide +kernel
theorem dX0_sumOf_25 : decode cX0_sumOf 25 = .ok (.ireturn, 1) := by decide +kernel
set_option maxRecDepth 20000 in
theorem kb_6_0 : ∀ q ∈ tb_6_0, s_atx 6 yX0_sumOf cX0_sumOf q.1 q.2 := (List.forall_mem_cons.mpr ⟨⟨s_iconst dX0_sumOf_0 (by decide +kernel), s_mo_push _ _⟩, (List.forall_mem_cons.mpr ⟨⟨s_stIn dX0_sumOf_1 rfl, s_mo_stI _ _⟩, (List.forall_mem_cons.mpr ⟨⟨s_iconst dX0_sumOf_2 (by decide +kernel), s_mo_push _ _⟩, (List.forall_mem_cons.mpr ⟨⟨s_stIn dX0_sumOf_3 rfl, s_mo_stI _ _⟩, (List.forall_mem_cons.mpr ⟨⟨s_ldIn dX0_sumOf_4 rfl, s_mo_ldI _ _⟩, (List.forall_mem_cons.mpr ⟨⟨s_ldAn dX0_sumOf_5 rfl, s_mo_ldA _ _⟩, (List.forall_mem_cons.mpr ⟨⟨s_getf (ci := 0) (k := 2) rfl (by decide) inX0 w_57 dX0_sumOf_6, s_mo_getf _ _ _⟩, (List.forall_mem_cons.mpr ⟨⟨s_icge dX0_sumOf_9 (by decide), s_mo_icge _ _⟩, (List.forall_mem_cons.mpr ⟨⟨s_ldIn dX0_sumOf_12 rfl, s_mo_ldI _ _⟩, (List.forall_mem_cons.mpr ⟨⟨s_ldAn dX0_sumOf_13 rfl, s_mo_ldA _ _⟩, (List.forall_mem_cons.mpr ⟨⟨s_ldIn dX0_sumOf_14 rfl, s_mo_ldI _ _⟩, (List.forall_mem_cons.mpr ⟨⟨s_iald dX0_sumOf_15, s_mo_iald _⟩, (List.forall_mem_cons.mpr ⟨⟨s_iadd dX0_sumOf_16, s_mo_bin _ _⟩, (List.forall_mem_cons.mpr ⟨⟨s_stIn dX0_sumOf_17 rfl, s_mo_stI _ _⟩, (List.forall_mem_cons.mpr ⟨⟨s_inc dX0_sumOf_18 (by decide +kernel), s_mo_inc _ _ _⟩, (List.forall_mem_cons.mpr ⟨⟨s_goto dX0_sumOf_21 (by decide), s_mo_goto _⟩, (List.forall_mem_cons.mpr ⟨⟨s_ldIn dX0_sumOf_24 rfl, s_mo_ldI _ _⟩, (List.forall_mem_cons.mpr ⟨s_r1 mk_6 dX0_sumOf_25, (fun _ h => absurd h List.not_mem_nil)⟩)⟩)⟩)⟩)⟩)⟩)⟩)⟩)⟩)⟩)⟩)⟩)⟩)⟩)⟩)⟩)⟩)⟩)
theorem km_6 : ∀ t ∈ tm_6, s_tok 6 t := (List.forall_mem_cons.mpr ⟨s_lift mk_6 kb_6_0, (fun _ h => absurd h List.not_mem_nil)⟩)
theorem dX0_bears_0 : decode cX0_bears 0 = .ok (.aload_n 0, 1) := by decide +kernel
theorem dX0_bears_1 : decode cX0_bears 1 = .ok (.iload_n 1, 1) := by decide +kernel
theorem dX0_bears_2 : decode cX0_bears 2 = .ok (.aload_n 0, 1) := by decide +kernel
theorem dX0_bears_3 : decode cX0_bears 3 = .ok (.getfield 9, 3) := by decide +kernel
theorem dX0_bears_6 : decode cX0_bears 6 = .ok (.iload_n 1, 1) := by decide +kernel
theorem dX0_bears_7 : decode cX0_bears 7 = .ok (.iaload, 1) := by decide +kernel
theorem dX0_bears_8 : decode cX0_bears 8 = .ok (.invokevirtual 83, 3) := by decide +kernel
theorem dX0_bears_11 : decode cX0_bears 11 = .ok (.ireturn, 1) := by decide +kernel
set_option maxRecDepth 20000 in
theorem kb_7_0 : ∀ q ∈ tb_7_0, s_atx 7 yX0_bears cX0_bears q.1 q.2 := (List.forall_mem_cons.mpr ⟨⟨s_ldAn dX0_bears_0 rfl, s_mo_ldA _ _⟩, (List.forall_mem_cons.mpr ⟨⟨s_ldIn dX0_bears_1 rfl, s_mo_ldI _ _⟩, (List.forall_mem_cons.mpr ⟨⟨s_ldAn dX0_bears_2 rfl, s_mo_ldA _ _⟩, (List.forall_mem_cons.mpr ⟨⟨s_getf (ci := 0) (k := 6) rfl (by decide) inX0 w_71 dX0_bears_3, s_mo_getf _ _ _⟩, (List.forall_mem_cons.mpr ⟨⟨s_ldIn dX0_bears_6 rfl, s_mo_ldI _ _⟩, (List.forall_mem_cons.mpr ⟨⟨s_iald dX0_bears_7, s_mo_iald _⟩, (List.forall_mem_cons.mpr ⟨⟨s_sV mk_7 mk_8 ok_8 (by decide +kernel) dX0_bears_8 w_785 w_786 w_787 (Or.inr ⟨0, _, _, rfl, rfl⟩), s_h0 mk_7⟩, (List.forall_mem_cons.mpr ⟨s_r1 mk_7 dX0_bears_11, (fun _ h => absurd h List.not_mem_nil)⟩)⟩)⟩)⟩)⟩)⟩)⟩)⟩)
theorem km_7 : ∀ t ∈ tm_7, s_tok 7 t := (List.forall_mem_cons.mpr ⟨s_lift mk_7 kb_7_0, (fun _ h => absurd h List.not_mem_nil)⟩)
theorem dX0_bearsIfThick_0 : decode cX0_bearsIfThick 0 = .ok (.aload_n 0, 1) := by decide +kernel
theorem dX0_bearsIfThick_1 : decode cX0_bearsIfThick 1 = .ok (.getfield 21, 3) := by decide +kernel
theorem dX0_bearsIfThick_4 : decode cX0_bearsIfThick 4 = .ok (.iload_n 1, 1) := by decide +kernel
theorem dX0_bearsIfThick_5 : decode cX0_bearsIfThick 5 = .ok (.iaload, 1) := by decide +kernel
theorem dX0_bearsIfThick_6 : decode cX0_bearsIfThick 6 = .ok (.iconst 3, 1) := by decide +kernel
theorem dX0_bearsIfThick_7 : decode cX0_bearsIfThick 7 = .ok (.if_icmp .lt 5, 3) := by decide +kernel
theorem dX0_bearsIfThick_10 : decode cX0_bearsIfThick 10 = .ok (.iconst 0, 1) := by decide +kernel
theorem dX0_bearsIfThick_11 : decode cX0_bearsIfThick 11 = .ok (.ireturn, 1) := by decide +kernel
theorem dX0_bearsIfThick_12 : decode cX0_bearsIfThick 12 = .ok (.bipush 10, 2) := by decide +kernel
theorem dX0_bearsIfThick_14 : decode cX0_bearsIfThick 14 = .ok (.iload_n 2, 1) := by decide +kernel
theorem dX0_bearsIfThick_15 : decode cX0_bearsIfThick 15 = .ok (.imul, 1) := by decide +kernel
theorem dX0_bearsIfThick_16 : decode cX0_bearsIfThick 16 = .ok (.iload_n 2, 1) := by decide +kernel
theorem dX0_bearsIfThick_17 : decode cX0_bearsIfThick 17 = .ok (.imul, 1) := by decide +kernel
theorem dX0_bearsIfThick_18 : decode cX0_bearsIfThick 18 = .ok (.bipush 30, 2) := by decide +kernel
theorem dX0_bearsIfThick_20 : decode cX0_bearsIfThick 20 = .ok (.aload_n 0, 1) := by decide +kernel
theorem dX0_bearsIfThick_21 : decode cX0_bearsIfThick 21 = .ok (.getfield 21, 3) := by decide +kernel
theorem dX0_bearsIfThick_24 : decode cX0_bearsIfThick 24 = .ok (.iload_n 1, 1) := by decide +kernel
theorem dX0_bearsIfThick_25 : decode cX0_bearsIfThick 25 = .ok (.iaload, 1) := by decide +kernel
theorem dX0_bearsIfThick_26 : decode cX0_bearsIfThick 26 = .ok (.imul, 1) := by decide +kernel
theorem dX0_bearsIfThick_27 : decode cX0_bearsIfThick 27 = .ok (.isub, 1) := by decide +kernel
theorem dX0_bearsIfThick_28 : decode cX0_bearsIfThick 28 = .ok (.aload_n 0, 1) := by decide +kernel
theorem dX0_bearsIfThick_29 : decode cX0_bearsIfThick 29 = .ok (.getfield 15, 3) := by decide +kernel
theorem dX0_bearsIfThick_32 : decode cX0_bearsIfThick 32 = .ok (.iload_n 1, 1) := by decide +kernel
theorem dX0_bearsIfThick_33 : decode cX0_bearsIfThick 33 = .ok (.iaload, 1) := by decide +kernel
theorem dX0_bearsIfThick_34 : decode cX0_bearsIfThick 34 = .ok (.iconst 0, 1) := by decide +kernel
theorem dX0_bearsIfThick_35 : decode cX0_bearsIfThick 35 = .ok (.invokestatic 87, 3) := by decide +kernel
theorem dX0_bearsIfThick_38 : decode cX0_bearsIfThick 38 = .ok (.iadd, 1) := by decide +kernel
theorem dX0_bearsIfThick_39 : decode cX0_bearsIfThick 39 = .ok (.istore_n 3, 1) := by decide +kernel
theorem dX0_bearsIfThick_40 : decode cX0_bearsIfThick 40 = .ok (.iload_n 3, 1) := by decide +kernel
theorem dX0_bearsIfThick_41 : decode cX0_bearsIfThick 41 = .ok (.iconst 0, 1) := by decide +kernel
theorem dX0_bearsIfThick_42 : decode cX0_bearsIfThick 42 = .ok (.invokestatic 92, 3) := by decide +kernel
theorem dX0_bearsIfThick_45 : decode cX0_bearsIfThick 45 = .ok (.ireturn, 1) := by decide +kernel
set_option maxRecDepth 20000 in
theorem kb_8_0 : ∀ q ∈ tb_8_0, s_atx 8 yX0_bearsIfThick cX0_bearsIfThick q.1 q.2 := (List.forall_mem_cons.mpr ⟨⟨s_ldAn dX0_bearsIfThick_0 rfl, s_mo_ldA _ _⟩, (List.forall_mem_cons.mpr ⟨⟨s_getf (ci := 0) (k := 9) rfl (by decide) inX0 w_88 dX0_bearsIfThick_1, s_mo_getf _ _ _⟩, (List.forall_mem_cons.mpr ⟨⟨s_ldIn dX0_bearsIfThick_4 rfl, s_mo_ldI _ _⟩, (List.forall_mem_cons.mpr ⟨⟨s_iald dX0_bearsIfThick_5, s_mo_iald _⟩, (List.forall_mem_cons.mpr ⟨⟨s_iconst dX0_bearsIfThick_6 (by decide +kernel), s_mo_push _ _⟩, (List.forall_mem_cons.mpr ⟨⟨s_iclt dX0_bearsIfThick_7 (by decide), s_mo_iclt _ _⟩, (List.forall_mem_cons.mpr ⟨⟨s_iconst dX0_bearsIfThick_10 (by decide +kernel), s_mo_push _ _⟩, (List.forall_mem_cons.mpr ⟨s_r1 mk_8 dX0_bearsIfThick_11, (List.forall_mem_cons.mpr ⟨⟨s_bipush dX0_bearsIfThick_12 (by decide +kernel), s_mo_push _ _⟩, (List.forall_mem_cons.mpr ⟨⟨s_ldIn dX0_bearsIfThick_14 rfl, s_mo_ldI _ _⟩, (List.forall_mem_cons.mpr ⟨⟨s_imul dX0_bearsIfThick_15, s_mo_bin _ _⟩, (List.forall_mem_cons.mpr ⟨⟨s_ldIn dX0_bearsIfThick_16 rfl, s_mo_ldI _ _⟩, (List.forall_mem_cons.mpr ⟨⟨s_imul dX0_bearsIfThick_17, s_mo_bin _ _⟩, (List.forall_mem_cons.mpr ⟨⟨s_bipush dX0_bearsIfThick_18 (by decide +kernel), s_mo_push _ _⟩, (List.forall_mem_cons.mpr ⟨⟨s_ldAn dX0_bearsIfThick_20 rfl, s_mo_ldA _ _⟩, (List.forall_mem_cons.mpr ⟨⟨s_getf (ci := 0) (k := 9) rfl (by decide) inX0 w_88 dX0_bearsIfThick_21, s_mo_getf _ _ _⟩, (List.forall_mem_cons.mpr ⟨⟨s_ldIn dX0_bearsIfThick_24 rfl, s_mo_ldI _ _⟩, (List.forall_mem_cons.mpr ⟨⟨s_iald dX0_bearsIfThick_25, s_mo_iald _⟩, (List.forall_mem_cons.mpr ⟨⟨s_imul dX0_bearsIfThick_26, s_mo_bin _ _⟩, (List.forall_mem_cons.mpr ⟨⟨s_isub dX0_bearsIfThick_27, s_mo_bin _ _⟩, (List.forall_mem_cons.mpr ⟨⟨s_ldAn dX0_bearsIfThick_28 rfl, s_mo_ldA _ _⟩, (List.forall_mem_cons.mpr ⟨⟨s_getf (ci := 0) (k := 7) rfl (by decide) inX0 w_77 dX0_bearsIfThick_29, s_mo_getf _ _ _⟩, (List.forall_mem_cons.mpr ⟨⟨s_ldIn dX0_bearsIfThick_32 rfl, s_mo_ldI _ _⟩, (List.forall_mem_cons.mpr ⟨⟨s_iald dX0_bearsIfThick_33, s_mo_iald _⟩, (List.forall_mem_cons.mpr ⟨⟨s_iconst dX0_bearsIfThick_34 (by decide +kernel), s_mo_push _ _⟩, (List.forall_mem_cons.mpr ⟨⟨s_mn w_789 ws_mn w_mi wc_mn dX0_bearsIfThick_35, s_mo_mn _⟩, (List.forall_mem_cons.mpr ⟨⟨s_iadd dX0_bearsIfThick_38, s_mo_bin _ _⟩, (List.forall_mem_cons.mpr ⟨⟨s_stIn dX0_bearsIfThick_39 rfl, s_mo_stI _ _⟩, (List.forall_mem_cons.mpr ⟨⟨s_ldIn dX0_bearsIfThick_40 rfl, s_mo_ldI _ _⟩, (List.forall_mem_cons.mpr ⟨⟨s_iconst dX0_bearsIfThick_41 (by decide +kernel), s_mo_push _ _⟩, (List.forall_mem_cons.mpr ⟨⟨s_mx w_790 ws_mx w_mi wc_mx dX0_bearsIfThick_42, s_mo_mx _⟩, (List.forall_mem_cons.mpr ⟨s_r1 mk_8 dX0_bearsIfThick_45, (fun _ h => absurd h List.not_mem_nil)⟩)⟩)⟩)⟩)⟩)⟩)⟩)⟩)⟩)⟩)⟩)⟩)⟩)⟩)⟩)⟩)⟩)⟩)⟩)⟩)⟩)⟩)⟩)⟩)⟩)⟩)⟩)⟩)⟩)⟩)⟩)⟩)
theorem km_8 : ∀ t ∈ tm_8, s_tok 8 t := (List.forall_mem_cons.mpr ⟨s_lift mk_8 kb_8_0, (fun _ h => absurd h List.not_mem_nil)⟩)
theorem dX0_isThere_0 : decode cX0_isThere 0 = .ok (.aload_n 0, 1) := by decide +kernel
theorem dX0_isThere_1 : decode cX0_isThere 1 = .ok (.getfield 30, 3) := by decide +kernel
theorem dX0_isThere_4 : decode cX0_isThere 4 = .ok (.iconst 5, 1) := by decide +kernel
theorem dX0_isThere_5 : decode cX0_isThere 5 = .ok (.iload_n 1, 1) := by decide +kernel
theorem dX0_isThere_6 : decode cX0_isThere 6 = .ok (.imul, 1) := by decide +kernel
theorem dX0_isThere_7 : decode cX0_isThere 7 = .ok (.iconst 2, 1) := by decide +kernel
theorem dX0_isThere_8 : decode cX0_isThere 8 = .ok (.iadd, 1) := by decide +kernel
theorem dX0_isThere_9 : decode cX0_isThere 9 = .ok (.iaload, 1) := by decide +kernel
theorem dX0_isThere_10 : decode cX0_isThere 10 = .ok (.istore_n 3, 1) := by decide +kernel
theorem dX0_isThere_11 : decode cX0_isThere 11 = .ok (.aload_n 0, 1) := by decide +kernel
theorem dX0_isThere_12 : decode cX0_isThere 12 = .ok (.getfield 30, 3) := by decide +kernel
theorem dX0_isThere_15 : decode cX0_isThere 15 = .ok (.iconst 5, 1) := by decide +kernel
theorem dX0_isThere_16 : decode cX0_isThere 16 = .ok (.iload_n 1, 1) := by decide +kernel
theorem dX0_isThere_17 : decode cX0_isThere 17 = .ok (.imul, 1) := by decide +kernel
theorem dX0_isThere_18 : decode cX0_isThere 18 = .ok (.iconst 3, 1) := by decide +kernel
theorem dX0_isThere_19 : decode cX0_isThere 19 = .ok (.iadd, 1) := by decide +kernel
theorem dX0_isThere_20 : decode cX0_isThere 20 = .ok (.iaload, 1) := by decide +kernel
theorem dX0_isThere_21 : decode cX0_isThere 21 = .ok (.istore 4, 2) := by decide +kernel
theorem dX0_isThere_23 : decode cX0_isThere 23 = .ok (.iload_n 3, 1) := by decide +kernel
theorem dX0_isThere_24 : decode cX0_isThere 24 = .ok (.iload 4, 2) := by decide +kernel
theorem dX0_isThere_26 : decode cX0_isThere 26 = .ok (.if_icmp .gt 22, 3) := by decide +kernel
theorem dX0_isThere_29 : decode cX0_isThere 29 = .ok (.iload_n 3, 1) := by decide +kernel
theorem dX0_isThere_30 : decode cX0_isThere 30 = .ok (.iload_n 2, 1) := by decide +kernel
theorem dX0_isThere_31 : decode cX0_isThere 31 = .ok (.if_icmp .gt 13, 3) := by decide +kernel
theorem dX0_isThere_34 : decode cX0_isThere 34 = .ok (.iload_n 2, 1) := by decide +kernel
theorem dX0_isThere_35 : decode cX0_isThere 35 = .ok (.iload 4, 2) := by decide +kernel
theorem dX0_isThere_37 : decode cX0_isThere 37 = .ok (.if_icmp .gt 7, 3) := by decide +kernel
theorem dX0_isThere_40 : decode cX0_isThere 40 = .ok (.iconst 1, 1) := by decide +kernel
theorem dX0_isThere_41 : decode cX0_isThere 41 = .ok (.goto 23, 3) := by decide +kernel
theorem dX0_isThere_44 : decode cX0_isThere 44 = .ok (.iconst 0, 1) := by decide +kernel
theorem dX0_isThere_45 : decode cX0_isThere 45 = .ok (.goto 19, 3) := by decide +kernel
theorem dX0_isThere_48 : decode cX0_isThere 48 = .ok (.iload_n 3, 1) := by decide +kernel
theorem dX0_isThere_49 : decode cX0_isThere 49 = .ok (.iload_n 2, 1) := by decide +kernel
theorem dX0_isThere_50 : decode cX0_isThere 50 = .ok (.if_icmp .le 9, 3) := by decide +kernel
theorem dX0_isThere_53 : decode cX0_isThere 53 = .ok (.iload_n 2, 1) := by decide +kernel
theorem dX0_isThere_54 : decode cX0_isThere 54 = .ok (.iload 4, 2) := by decide +kernel
theorem dX0_isThere_56 : decode cX0_isThere 56 = .ok (.if_icmp .gt 7, 3) := by decide +kernel
theorem dX0_isThere_59 : decode cX0_isThere 59 = .ok (.iconst 1, 1) := by decide +kernel
theorem dX0_isThere_60 : decode cX0_isThere 60 = .ok (.goto 4, 3) := by decide +kernel
theorem dX0_isThere_63 : decode cX0_isThere 63 = .ok (.iconst 0, 1) := by decide +kernel
theorem dX0_isThere_64 : decode cX0_isThere 64 = .ok (.ireturn, 1) := by decide +kernel
set_option maxRecDepth 20000 in
theorem kb_9_0 : ∀ q ∈ tb_9_0, s_atx 9 yX0_isThere cX0_isThere q.1 q.2 := (List.forall_mem_cons.mpr ⟨⟨s_ldAn dX0_isThere_0 rfl, s_mo_ldA _ _⟩, (List.forall_mem_cons.mpr ⟨⟨s_getf (ci := 0) (k := 13) rfl (by decide) inX0 w_107 dX0_isThere_1, s_mo_getf _ _ _⟩, (List.forall_mem_cons.mpr ⟨⟨s_iconst dX0_isThere_4 (by decide +kernel), s_mo_push _ _⟩, (List.forall_mem_cons.mpr ⟨⟨s_ldIn dX0_isThere_5 rfl, s_mo_ldI _ _⟩, (List.forall_mem_cons.mpr ⟨⟨s_imul dX0_isThere_6, s_mo_bin _ _⟩, (List.forall_mem_cons.mpr ⟨⟨s_iconst dX0_isThere_7 (by decide +kernel), s_mo_push _ _⟩, (List.forall_mem_cons.mpr ⟨⟨s_iadd dX0_isThere_8, s_mo_bin _ _⟩, (List.forall_mem_cons.mpr ⟨⟨s_iald dX0_isThere_9, s_mo_iald _⟩, (List.forall_mem_cons.mpr ⟨⟨s_stIn dX0_isThere_10 rfl, s_mo_stI _ _⟩, (List.forall_mem_cons.mpr ⟨⟨s_ldAn dX0_isThere_11 rfl, s_mo_ldA _ _⟩, (List.forall_mem_cons.mpr ⟨⟨s_getf (ci := 0) (k := 13) rfl (by decide) inX0 w_107 dX0_isThere_12, s_mo_getf _ _ _⟩, (List.forall_mem_cons.mpr ⟨⟨s_iconst dX0_isThere_15 (by decide +kernel), s_mo_push _ _⟩, (List.forall_mem_cons.mpr ⟨⟨s_ldIn dX0_isThere_16 rfl, s_mo_ldI _ _⟩, (List.forall_mem_cons.mpr ⟨⟨s_imul dX0_isThere_17, s_mo_bin _ _⟩, (List.forall_mem_cons.mpr ⟨⟨s_iconst dX0_isThere_18 (by decide +kernel), s_mo_push _ _⟩, (List.forall_mem_cons.mpr ⟨⟨s_iadd dX0_isThere_19, s_mo_bin _ _⟩, (List.forall_mem_cons.mpr ⟨⟨s_iald dX0_isThere_20, s_mo_iald _⟩, (List.forall_mem_cons.mpr ⟨⟨s_stI dX0_isThere_21, s_mo_stI _ _⟩, (List.forall_mem_cons.mpr ⟨⟨s_ldIn dX0_isThere_23 rfl, s_mo_ldI _ _⟩, (List.forall_mem_cons.mpr ⟨⟨s_ldI dX0_isThere_24, s_mo_ldI _ _⟩, (List.forall_mem_cons.mpr ⟨⟨s_icgt dX0_isThere_26 (by decide), s_mo_icgt _ _⟩, (List.forall_mem_cons.mpr ⟨⟨s_ldIn dX0_isThere_29 rfl, s_mo_ldI _ _⟩, (List.forall_mem_cons.mpr ⟨⟨s_ldIn dX0_isThere_30 rfl, s_mo_ldI _ _⟩, (List.forall_mem_cons.mpr ⟨⟨s_icgt dX0_isThere_31 (by decide), s_mo_icgt _ _⟩, (List.forall_mem_cons.mpr ⟨⟨s_ldIn dX0_isThere_34 rfl, s_mo_ldI _ _⟩, (List.forall_mem_cons.mpr ⟨⟨s_ldI dX0_isThere_35, s_mo_ldI _ _⟩, (List.forall_mem_cons.mpr ⟨⟨s_icgt dX0_isThere_37 (by decide), s_mo_icgt _ _⟩, (List.forall_mem_cons.mpr ⟨⟨s_iconst dX0_isThere_40 (by decide +kernel), s_mo_push _ _⟩, (List.forall_mem_cons.mpr ⟨⟨s_goto dX0_isThere_41 (by decide), s_mo_goto _⟩, (List.forall_mem_cons.mpr ⟨⟨s_iconst dX0_isThere_44 (by decide +kernel), s_mo_push _ _⟩, (List.forall_mem_cons.mpr ⟨⟨s_goto dX0_isThere_45 (by decide), s_mo_goto _⟩, (List.forall_mem_cons.mpr ⟨⟨s_ldIn dX0_isThere_48 rfl, s_mo_ldI _ _⟩, (List.forall_mem_cons.mpr ⟨⟨s_ldIn dX0_isThere_49 rfl, s_mo_ldI _ _⟩, (List.forall_mem_cons.mpr ⟨⟨s_icle dX0_isThere_50 (by decide), s_mo_icle _ _⟩, (List.forall_mem_cons.mpr ⟨⟨s_ldIn dX0_isThere_53 rfl, s_mo_ldI _ _⟩, (List.forall_mem_cons.mpr ⟨⟨s_ldI dX0_isThere_54, s_mo_ldI _ _⟩, (List.forall_mem_cons.mpr ⟨⟨s_icgt dX0_isThere_56 (by decide), s_mo_icgt _ _⟩, (List.forall_mem_cons.mpr ⟨⟨s_iconst dX0_isThere_59 (by decide +kernel), s_mo_push _ _⟩, (List.forall_mem_cons.mpr ⟨⟨s_goto dX0_isThere_60 (by decide), s_mo_goto _⟩, (List.forall_mem_cons.mpr ⟨⟨s_iconst dX0_isThere_63 (by decide +kernel), s_mo_push _ _⟩, (fun _ h => absurd h List.not_mem_nil)⟩)⟩)⟩)⟩)⟩)⟩)⟩)⟩)⟩)⟩)⟩)⟩)⟩)⟩)⟩)⟩)⟩)⟩)⟩)⟩)⟩)⟩)⟩)⟩)⟩)⟩)⟩)⟩)⟩)⟩)⟩)⟩)⟩)⟩)⟩)⟩)⟩)⟩)⟩)⟩)
set_option maxRecDepth 20000 in
theorem kb_9_1 : ∀ q ∈ tb_9_1, s_atx 9 yX0_isThere cX0_isThere q.1 q.2 := (List.forall_mem_cons.mpr ⟨s_r2 mk_9 dX0_isThere_64, (fun _ h => absurd h List.not_mem_nil)⟩)
theorem km_9 : ∀ t ∈ tm_9, s_tok 9 t := (List.forall_mem_cons.mpr ⟨s_lift mk_9 kb_9_0, (List.forall_mem_cons.mpr ⟨s_lift mk_9 kb_9_1, (fun _ h => absurd h List.not_mem_nil)⟩)⟩)
theorem dX0_pressOf_0 : decode cX0_pressOf 0 = .ok (.aload_n 0, 1) := by decide +kernel
theorem dX0_pressOf_1 : decode cX0_pressOf 1 = .ok (.getfield 30, 3) := by decide +kernel
theorem dX0_pressOf_4 : decode cX0_pressOf 4 = .ok (.iconst 5, 1) := by decide +kernel
theorem dX0_pressOf_5 : decode cX0_pressOf 5 = .ok (.iload_n 1, 1) := by decide +kernel
theorem dX0_pressOf_6 : decode cX0_pressOf 6 = .ok (.imul, 1) := by decide +kernel
theorem dX0_pressOf_7 : decode cX0_pressOf 7 = .ok (.iaload, 1) := by decide +kernel
theorem dX0_pressOf_8 : decode cX0_pressOf 8 = .ok (.istore_n 2, 1) := by decide +kernel
theorem dX0_pressOf_9 : decode cX0_pressOf 9 = .ok (.aload_n 0, 1) := by decide +kernel
theorem dX0_pressOf_10 : decode cX0_pressOf 10 = .ok (.getfield 30, 3) := by decide +kernel
theorem dX0_pressOf_13 : decode cX0_pressOf 13 = .ok (.iconst 5, 1) := by decide +kernel
theorem dX0_pressOf_14 : decode cX0_pressOf 14 = .ok (.iload_n 1, 1) := by decide +kernel
theorem dX0_pressOf_15 : decode cX0_pressOf 15 = .ok (.imul, 1) := by decide +kernel
theorem dX0_pressOf_16 : decode cX0_pressOf 16 = .ok (.iconst 4, 1) := by decide +kernel
theorem dX0_pressOf_17 : decode cX0_pressOf 17 = .ok (.iadd, 1) := by decide +kernel
theorem dX0_pressOf_18 : decode cX0_pressOf 18 = .ok (.iaload, 1) := by decide +kernel
theorem dX0_pressOf_19 : decode cX0_pressOf 19 = .ok (.iconst 1, 1) := by decide +kernel
theorem dX0_pressOf_20 : decode cX0_pressOf 20 = .ok (.if_icmp .ne 7, 3) := by decide +kernel
theorem dX0_pressOf_23 : decode cX0_pressOf 23 = .ok (.iload_n 2, 1) := by decide +kernel
theorem dX0_pressOf_24 : decode cX0_pressOf 24 = .ok (.goto 6, 3) := by decide +kernel
theorem dX0_pressOf_27 : decode cX0_pressOf 27 = .ok (.iconst 2, 1) := by decide +kernel
theorem dX0_pressOf_28 : decode cX0_pressOf 28 = .ok (.iload_n 2, 1) := by decide +kernel
theorem dX0_pressOf_29 : decode cX0_pressOf 29 = .ok (.imul, 1) := by decide +kernel
theorem dX0_pressOf_30 : decode cX0_pressOf 30 = .ok (.ireturn, 1) := by decide +kernel
set_option maxRecDepth 20000 in
theorem kb_10_0 : ∀ q ∈ tb_10_0, s_atx 10 yX0_pressOf cX0_pressOf q.1 q.2 := (List.forall_mem_cons.mpr ⟨⟨s_ldAn dX0_pressOf_0 rfl, s_mo_ldA _ _⟩, (List.forall_mem_cons.mpr ⟨⟨s_getf (ci := 0) (k := 13) rfl (by decide) inX0 w_107 dX0_pressOf_1, s_mo_getf _ _ _⟩, (List.forall_mem_cons.mpr ⟨⟨s_iconst dX0_pressOf_4 (by decide +kernel), s_mo_push _ _⟩, (List.forall_mem_cons.mpr ⟨⟨s_ldIn dX0_pressOf_5 rfl, s_mo_ldI _ _⟩, (List.forall_mem_cons.mpr ⟨⟨s_imul dX0_pressOf_6, s_mo_bin _ _⟩, (List.forall_mem_cons.mpr ⟨⟨s_iald dX0_pressOf_7, s_mo_iald _⟩, (List.forall_mem_cons.mpr ⟨⟨s_stIn dX0_pressOf_8 rfl, s_mo_stI _ _⟩, (List.forall_mem_cons.mpr ⟨⟨s_ldAn dX0_pressOf_9 rfl, s_mo_ldA _ _⟩, (List.forall_mem_cons.mpr ⟨⟨s_getf (ci := 0) (k := 13) rfl (by decide) inX0 w_107 dX0_pressOf_10, s_mo_getf _ _ _⟩, (List.forall_mem_cons.mpr ⟨⟨s_iconst dX0_pressOf_13 (by decide +kernel), s_mo_push _ _⟩, (List.forall_mem_cons.mpr ⟨⟨s_ldIn dX0_pressOf_14 rfl, s_mo_ldI _ _⟩, (List.forall_mem_cons.mpr ⟨⟨s_imul dX0_pressOf_15, s_mo_bin _ _⟩, (List.forall_mem_cons.mpr ⟨⟨s_iconst dX0_pressOf_16 (by decide +kernel), s_mo_push _ _⟩, (List.forall_mem_cons.mpr ⟨⟨s_iadd dX0_pressOf_17, s_mo_bin _ _⟩, (List.forall_mem_cons.mpr ⟨⟨s_iald dX0_pressOf_18, s_mo_iald _⟩, (List.forall_mem_cons.mpr ⟨⟨s_iconst dX0_pressOf_19 (by decide +kernel), s_mo_push _ _⟩, (List.forall_mem_cons.mpr ⟨⟨s_icne dX0_pressOf_20 (by decide), s_mo_icne _ _⟩, (List.forall_mem_cons.mpr ⟨⟨s_ldIn dX0_pressOf_23 rfl, s_mo_ldI _ _⟩, (List.forall_mem_cons.mpr ⟨⟨s_goto dX0_pressOf_24 (by decide), s_mo_goto _⟩, (List.forall_mem_cons.mpr ⟨⟨s_iconst dX0_pressOf_27 (by decide +kernel), s_mo_push _ _⟩, (List.forall_mem_cons.mpr ⟨⟨s_ldIn dX0_pressOf_28 rfl, s_mo_ldI _ _⟩, (List.forall_mem_cons.mpr ⟨⟨s_imul dX0_pressOf_29, s_mo_bin _ _⟩, (List.forall_mem_cons.mpr ⟨s_r1 mk_10 dX0_pressOf_30, (fun _ h => absurd h List.not_mem_nil)⟩)⟩)⟩)⟩)⟩)⟩)⟩)⟩)⟩)⟩)⟩)⟩)⟩)⟩)⟩)⟩)⟩)⟩)⟩)⟩)⟩)⟩)⟩)
theorem km_10 : ∀ t ∈ tm_10, s_tok 10 t := (List.forall_mem_cons.mpr ⟨s_lift mk_10 kb_10_0, (fun _ h => absurd h List.not_mem_nil)⟩)
theorem dX0_loadOn_0 : decode cX0_loadOn 0 = .ok (.iconst 0, 1) := by decide +kernel
theorem dX0_loadOn_1 : decode cX0_loadOn 1 = .ok (.istore_n 3, 1) := by decide +kernel
theorem dX0_loadOn_2 : decode cX0_loadOn 2 = .ok (.iconst 0, 1) := by decide +kernel
theorem dX0_loadOn_3 : decode cX0_loadOn 3 = .ok (.istore 4, 2) := by decide +kernel
theorem dX0_loadOn_5 : decode cX0_loadOn 5 = .ok (.iload 4, 2) := by decide +kernel
theorem dX0_loadOn_7 : decode cX0_loadOn 7 = .ok (.aload_n 0, 1) := by decide +kernel
theorem dX0_loadOn_8 : decode cX0_loadOn 8 = .ok (.getfield 74, 3) := by decide +kernel
theorem dX0_loadOn_11 : decode cX0_loadOn 11 = .ok (.if_icmp .ge 43, 3) := by decide +kernel
theorem dX0_loadOn_14 : decode cX0_loadOn 14 = .ok (.aload_n 0, 1) := by decide +kernel
theorem dX0_loadOn_15 : decode cX0_loadOn 15 = .ok (.getfield 30, 3) := by decide +kernel
theorem dX0_loadOn_18 : decode cX0_loadOn 18 = .ok (.iconst 5, 1) := by decide +kernel
theorem dX0_loadOn_19 : decode cX0_loadOn 19 = .ok (.iload 4, 2) := by decide +kernel
theorem dX0_loadOn_21 : decode cX0_loadOn 21 = .ok (.imul, 1) := by decide +kernel
theorem dX0_loadOn_22 : decode cX0_loadOn 22 = .ok (.iconst 1, 1) := by decide +kernel
theorem dX0_loadOn_23 : decode cX0_loadOn 23 = .ok (.iadd, 1) := by decide +kernel
theorem dX0_loadOn_24 : decode cX0_loadOn 24 = .ok (.iaload, 1) := by decide +kernel
theorem dX0_loadOn_25 : decode cX0_loadOn 25 = .ok (.iload_n 1, 1) := by decide +kernel
theorem dX0_loadOn_26 : decode cX0_loadOn 26 = .ok (.if_icmp .ne 22, 3) := by decide +kernel
theorem dX0_loadOn_29 : decode cX0_loadOn 29 = .ok (.aload_n 0, 1) := by decide +kernel
theorem dX0_loadOn_30 : decode cX0_loadOn 30 = .ok (.iload 4, 2) := by decide +kernel
theorem dX0_loadOn_32 : decode cX0_loadOn 32 = .ok (.iload_n 2, 1) := by decide +kernel
theorem dX0_loadOn_33 : decode cX0_loadOn 33 = .ok (.invokevirtual 95, 3) := by decide +kernel
theorem dX0_loadOn_36 : decode cX0_loadOn 36 = .ok (.ifCond .eq 12, 3) := by decide +kernel
theorem dX0_loadOn_39 : decode cX0_loadOn 39 = .ok (.iload_n 3, 1) := by decide +kernel
theorem dX0_loadOn_40 : decode cX0_loadOn 40 = .ok (.aload_n 0, 1) := by decide +kernel
theorem dX0_loadOn_41 : decode cX0_loadOn 41 = .ok (.iload 4, 2) := by decide +kernel
theorem dX0_loadOn_43 : decode cX0_loadOn 43 = .ok (.invokevirtual 99, 3) := by decide +kernel
theorem dX0_loadOn_46 : decode cX0_loadOn 46 = .ok (.iadd, 1) := by decide +kernel
theorem dX0_loadOn_47 : decode cX0_loadOn 47 = .ok (.istore_n 3, 1) := by decide +kernel
theorem dX0_loadOn_48 : decode cX0_loadOn 48 = .ok (.iinc 4 1, 3) := by decide +kernel
theorem dX0_loadOn_51 : decode cX0_loadOn 51 = .ok (.goto (-46), 3) := by decide +kernel
theorem dX0_loadOn_54 : decode cX0_loadOn 54 = .ok (.iload_n 3, 1) := by decide +kernel
theorem dX0_loadOn_55 : decode cX0_loadOn 55 = .ok (.ireturn, 1) := by decide +kernel
set_option maxRecDepth 20000 in
theorem kb_11_0 : ∀ q ∈ tb_11_0, s_atx 11 yX0_loadOn cX0_loadOn q.1 q.2 := (List.forall_mem_cons.mpr ⟨⟨s_iconst dX0_loadOn_0 (by decide +kernel), s_mo_push _ _⟩, (List.forall_mem_cons.mpr ⟨⟨s_stIn dX0_loadOn_1 rfl, s_mo_stI _ _⟩, (List.forall_mem_cons.mpr ⟨⟨s_iconst dX0_loadOn_2 (by decide +kernel), s_mo_push _ _⟩, (List.forall_mem_cons.mpr ⟨⟨s_stI dX0_loadOn_3, s_mo_stI _ _⟩, (List.forall_mem_cons.mpr ⟨⟨s_ldI dX0_loadOn_5, s_mo_ldI _ _⟩, (List.forall_mem_cons.mpr ⟨⟨s_ldAn dX0_loadOn_7 rfl, s_mo_ldA _ _⟩, (List.forall_mem_cons.mpr ⟨⟨s_getf (ci := 0) (k := 12) rfl (by decide) inX0 w_104 dX0_loadOn_8, s_mo_getf _ _ _⟩, (List.forall_mem_cons.mpr ⟨⟨s_icge dX0_loadOn_11 (by decide), s_mo_icge _ _⟩, (List.forall_mem_cons.mpr ⟨⟨s_ldAn dX0_loadOn_14 rfl, s_mo_ldA _ _⟩, (List.forall_mem_cons.mpr ⟨⟨s_getf (ci := 0) (k := 13) rfl (by decide) inX0 w_107 dX0_loadOn_15, s_mo_getf _ _ _⟩, (List.forall_mem_cons.mpr ⟨⟨s_iconst dX0_loadOn_18 (by decide +kernel), s_mo_push _ _⟩, (List.forall_mem_cons.mpr ⟨⟨s_ldI dX0_loadOn_19, s_mo_ldI _ _⟩, (List.forall_mem_cons.mpr ⟨⟨s_imul dX0_loadOn_21, s_mo_bin _ _⟩, (List.forall_mem_cons.mpr ⟨⟨s_iconst dX0_loadOn_22 (by decide +kernel), s_mo_push _ _⟩, (List.forall_mem_cons.mpr ⟨⟨s_iadd dX0_loadOn_23, s_mo_bin _ _⟩, (List.forall_mem_cons.mpr ⟨⟨s_iald dX0_loadOn_24, s_mo_iald _⟩, (List.forall_mem_cons.mpr ⟨⟨s_ldIn dX0_loadOn_25 rfl, s_mo_ldI _ _⟩, (List.forall_mem_cons.mpr ⟨⟨s_icne dX0_loadOn_26 (by decide), s_mo_icne _ _⟩, (List.forall_mem_cons.mpr ⟨⟨s_ldAn dX0_loadOn_29 rfl, s_mo_ldA _ _⟩, (List.forall_mem_cons.mpr ⟨⟨s_ldI dX0_loadOn_30, s_mo_ldI _ _⟩, (List.forall_mem_cons.mpr ⟨⟨s_ldIn dX0_loadOn_32 rfl, s_mo_ldI _ _⟩, (List.forall_mem_cons.mpr ⟨⟨s_sV mk_11 mk_9 ok_9 (by decide +kernel) dX0_loadOn_33 w_844 w_845 w_846 (Or.inr ⟨0, _, _, rfl, rfl⟩), s_h0 mk_11⟩, (List.forall_mem_cons.mpr ⟨⟨s_ifeq dX0_loadOn_36 (by decide), s_mo_ifeq _ _⟩, (List.forall_mem_cons.mpr ⟨⟨s_ldIn dX0_loadOn_39 rfl, s_mo_ldI _ _⟩, (List.forall_mem_cons.mpr ⟨⟨s_ldAn dX0_loadOn_40 rfl, s_mo_ldA _ _⟩, (List.forall_mem_cons.mpr ⟨⟨s_ldI dX0_loadOn_41, s_mo_ldI _ _⟩, (List.forall_mem_cons.mpr ⟨⟨s_sV mk_11 mk_10 ok_10 (by decide +kernel) dX0_loadOn_43 w_848 w_849 w_850 (Or.inr ⟨0, _, _, rfl, rfl⟩), s_h0 mk_11⟩, (List.forall_mem_cons.mpr ⟨⟨s_iadd dX0_loadOn_46, s_mo_bin _ _⟩, (List.forall_mem_cons.mpr ⟨⟨s_stIn dX0_loadOn_47 rfl, s_mo_stI _ _⟩, (List.forall_mem_cons.mpr ⟨⟨s_inc dX0_loadOn_48 (by decide +kernel), s_mo_inc _ _ _⟩, (List.forall_mem_cons.mpr ⟨⟨s_goto dX0_loadOn_51 (by decide), s_mo_goto _⟩, (List.forall_mem_cons.mpr ⟨⟨s_ldIn dX0_loadOn_54 rfl, s_mo_ldI _ _⟩, (List.forall_mem_cons.mpr ⟨s_r1 mk_11 dX0_loadOn_55, (fun _ h => absurd h List.not_mem_nil)⟩)⟩)⟩)⟩)⟩)⟩)⟩)⟩)⟩)⟩)⟩)⟩)⟩)⟩)⟩)⟩)⟩)⟩)⟩)⟩)⟩)⟩)⟩)⟩)⟩)⟩)⟩)⟩)⟩)⟩)⟩)⟩)⟩)
theorem km_11 : ∀ t ∈ tm_11, s_tok 11 t := (List.forall_mem_cons.mpr ⟨s_lift mk_11 kb_11_0, (fun _ h => absurd h List.not_mem_nil)⟩)
theorem dX0_holdsWith_0 : decode cX0_holdsWith 0 = .ok (.aload_n 0, 1) := by decide +kernel
theorem dX0_holdsWith_1 : decode cX0_holdsWith 1 = .ok (.getfield 21, 3) := by decide +kernel
theorem dX0_holdsWith_4 : decode cX0_holdsWith 4 = .ok (.iload_n 1, 1) := by decide +kernel
theorem dX0_holdsWith_5 : decode cX0_holdsWith 5 = .ok (.iaload, 1) := by decide +kernel
theorem dX0_holdsWith_6 : decode cX0_holdsWith 6 = .ok (.iconst 3, 1) := by decide +kernel
theorem dX0_holdsWith_7 : decode cX0_holdsWith 7 = .ok (.if_icmp .ge 23, 3) := by decide +kernel
theorem dX0_holdsWith_10 : decode cX0_holdsWith 10 = .ok (.aload_n 0, 1) := by decide +kernel
theorem dX0_holdsWith_11 : decode cX0_holdsWith 11 = .ok (.iload_n 1, 1) := by decide +kernel
theorem dX0_holdsWith_12 : decode cX0_holdsWith 12 = .ok (.iload_n 2, 1) := by decide +kernel
theorem dX0_holdsWith_13 : decode cX0_holdsWith 13 = .ok (.invokevirtual 103, 3) := by decide +kernel
theorem dX0_holdsWith_16 : decode cX0_holdsWith 16 = .ok (.iload_n 3, 1) := by decide +kernel
theorem dX0_holdsWith_17 : decode cX0_holdsWith 17 = .ok (.iadd, 1) := by decide +kernel
theorem dX0_holdsWith_18 : decode cX0_holdsWith 18 = .ok (.aload_n 0, 1) := by decide +kernel
theorem dX0_holdsWith_19 : decode cX0_holdsWith 19 = .ok (.iload_n 1, 1) := by decide +kernel
theorem dX0_holdsWith_20 : decode cX0_holdsWith 20 = .ok (.invokevirtual 106, 3) := by decide +kernel
theorem dX0_holdsWith_23 : decode cX0_holdsWith 23 = .ok (.if_icmp .gt 7, 3) := by decide +kernel
theorem dX0_holdsWith_26 : decode cX0_holdsWith 26 = .ok (.iconst 1, 1) := by decide +kernel
theorem dX0_holdsWith_27 : decode cX0_holdsWith 27 = .ok (.goto 4, 3) := by decide +kernel
theorem dX0_holdsWith_30 : decode cX0_holdsWith 30 = .ok (.iconst 0, 1) := by decide +kernel
theorem dX0_holdsWith_31 : decode cX0_holdsWith 31 = .ok (.ireturn, 1) := by decide +kernel
set_option maxRecDepth 20000 in
theorem kb_12_0 : ∀ q ∈ tb_12_0, s_atx 12 yX0_holdsWith cX0_holdsWith q.1 q.2 := (List.forall_mem_cons.mpr ⟨⟨s_ldAn dX0_holdsWith_0 rfl, s_mo_ldA _ _⟩, (List.forall_mem_cons.mpr ⟨⟨s_getf (ci := 0) (k := 9) rfl (by decide) inX0 w_88 dX0_holdsWith_1, s_mo_getf _ _ _⟩, (List.forall_mem_cons.mpr ⟨⟨s_ldIn dX0_holdsWith_4 rfl, s_mo_ldI _ _⟩, (List.forall_mem_cons.mpr ⟨⟨s_iald dX0_holdsWith_5, s_mo_iald _⟩, (List.forall_mem_cons.mpr ⟨⟨s_iconst dX0_holdsWith_6 (by decide +kernel), s_mo_push _ _⟩, (List.forall_mem_cons.mpr ⟨⟨s_icge dX0_holdsWith_7 (by decide), s_mo_icge _ _⟩, (List.forall_mem_cons.mpr ⟨⟨s_ldAn dX0_holdsWith_10 rfl, s_mo_ldA _ _⟩, (List.forall_mem_cons.mpr ⟨⟨s_ldIn dX0_holdsWith_11 rfl, s_mo_ldI _ _⟩, (List.forall_mem_cons.mpr ⟨⟨s_ldIn dX0_holdsWith_12 rfl, s_mo_ldI _ _⟩, (List.forall_mem_cons.mpr ⟨⟨s_sV mk_12 mk_11 ok_11 (by decide +kernel) dX0_holdsWith_13 w_863 w_841 w_842 (Or.inr ⟨0, _, _, rfl, rfl⟩), s_h0 mk_12⟩, (List.forall_mem_cons.mpr ⟨⟨s_ldIn dX0_holdsWith_16 rfl, s_mo_ldI _ _⟩, (List.forall_mem_cons.mpr ⟨⟨s_iadd dX0_holdsWith_17, s_mo_bin _ _⟩, (List.forall_mem_cons.mpr ⟨⟨s_ldAn dX0_holdsWith_18 rfl, s_mo_ldA _ _⟩, (List.forall_mem_cons.mpr ⟨⟨s_ldIn dX0_holdsWith_19 rfl, s_mo_ldI _ _⟩, (List.forall_mem_cons.mpr ⟨⟨s_sV mk_12 mk_7 ok_7 (by decide +kernel) dX0_holdsWith_20 w_864 w_782 w_783 (Or.inr ⟨0, _, _, rfl, rfl⟩), s_h0 mk_12⟩, (List.forall_mem_cons.mpr ⟨⟨s_icgt dX0_holdsWith_23 (by decide), s_mo_icgt _ _⟩, (List.forall_mem_cons.mpr ⟨⟨s_iconst dX0_holdsWith_26 (by decide +kernel), s_mo_push _ _⟩, (List.forall_mem_cons.mpr ⟨⟨s_goto dX0_holdsWith_27 (by decide), s_mo_goto _⟩, (List.forall_mem_cons.mpr ⟨⟨s_iconst dX0_holdsWith_30 (by decide +kernel), s_mo_push _ _⟩, (List.forall_mem_cons.mpr ⟨s_r2 mk_12 dX0_holdsWith_31, (fun _ h => absurd h List.not_mem_nil)⟩)⟩)⟩)⟩)⟩)⟩)⟩)⟩)⟩)⟩)⟩)⟩)⟩)⟩)⟩)⟩)⟩)⟩)⟩)⟩)
theorem km_12 : ∀ t ∈ tm_12, s_tok 12 t := (List.forall_mem_cons.mpr ⟨s_lift mk_12 kb_12_0, (fun _ h => absurd h List.not_mem_nil)⟩)
theorem dX0_sun_0 : decode cX0_sun 0 = .ok (.iload_n 0, 1) := by decide +kernel
theorem dX0_sun_1 : decode cX0_sun 1 = .ok (.bipush 6, 2) := by decide +kernel
theorem dX0_sun_3 : decode cX0_sun 3 = .ok (.if_icmp .lt 9, 3) := by decide +kernel
theorem dX0_sun_6 : decode cX0_sun 6 = .ok (.iload_n 0, 1) := by decide +kernel
theorem dX0_sun_7 : decode cX0_sun 7 = .ok (.bipush 18, 2) := by decide +kernel
theorem dX0_sun_9 : decode cX0_sun 9 = .ok (.if_icmp .le 7, 3) := by decide +kernel
theorem dX0_sun_12 : decode cX0_sun 12 = .ok (.iconst 0, 1) := by decide +kernel
theorem dX0_sun_13 : decode cX0_sun 13 = .ok (.goto 16, 3) := by decide +kernel
theorem dX0_sun_16 : decode cX0_sun 16 = .ok (.bipush 100, 2) := by decide +kernel
theorem dX0_sun_18 : decode cX0_sun 18 = .ok (.bipush 12, 2) := by decide +kernel
theorem dX0_sun_20 : decode cX0_sun 20 = .ok (.iload_n 0, 1) := by decide +kernel
theorem dX0_sun_21 : decode cX0_sun 21 = .ok (.bipush 12, 2) := by decide +kernel
theorem dX0_sun_23 : decode cX0_sun 23 = .ok (.isub, 1) := by decide +kernel
theorem dX0_sun_24 : decode cX0_sun 24 = .ok (.invokestatic 109, 3) := by decide +kernel
theorem dX0_sun_27 : decode cX0_sun 27 = .ok (.imul, 1) := by decide +kernel
theorem dX0_sun_28 : decode cX0_sun 28 = .ok (.isub, 1) := by decide +kernel
theorem dX0_sun_29 : decode cX0_sun 29 = .ok (.ireturn, 1) := by decide +kernel
set_option maxRecDepth 20000 in
theorem kb_13_0 : ∀ q ∈ tb_13_0, s_atx 13 yX0_sun cX0_sun q.1 q.2 := (List.forall_mem_cons.mpr ⟨⟨s_ldIn dX0_sun_0 rfl, s_mo_ldI _ _⟩, (List.forall_mem_cons.mpr ⟨⟨s_bipush dX0_sun_1 (by decide +kernel), s_mo_push _ _⟩, (List.forall_mem_cons.mpr ⟨⟨s_iclt dX0_sun_3 (by decide), s_mo_iclt _ _⟩, (List.forall_mem_cons.mpr ⟨⟨s_ldIn dX0_sun_6 rfl, s_mo_ldI _ _⟩, (List.forall_mem_cons.mpr ⟨⟨s_bipush dX0_sun_7 (by decide +kernel), s_mo_push _ _⟩, (List.forall_mem_cons.mpr ⟨⟨s_icle dX0_sun_9 (by decide), s_mo_icle _ _⟩, (List.forall_mem_cons.mpr ⟨⟨s_iconst dX0_sun_12 (by decide +kernel), s_mo_push _ _⟩, (List.forall_mem_cons.mpr ⟨⟨s_goto dX0_sun_13 (by decide), s_mo_goto _⟩, (List.forall_mem_cons.mpr ⟨⟨s_bipush dX0_sun_16 (by decide +kernel), s_mo_push _ _⟩, (List.forall_mem_cons.mpr ⟨⟨s_bipush dX0_sun_18 (by decide +kernel), s_mo_push _ _⟩, (List.forall_mem_cons.mpr ⟨⟨s_ldIn dX0_sun_20 rfl, s_mo_ldI _ _⟩, (List.forall_mem_cons.mpr ⟨⟨s_bipush dX0_sun_21 (by decide +kernel), s_mo_push _ _⟩, (List.forall_mem_cons.mpr ⟨⟨s_isub dX0_sun_23, s_mo_bin _ _⟩, (List.forall_mem_cons.mpr ⟨⟨s_mb w_886 ws_mb w_mi wc_mb dX0_sun_24, s_mo_mb _⟩, (List.forall_mem_cons.mpr ⟨⟨s_imul dX0_sun_27, s_mo_bin _ _⟩, (List.forall_mem_cons.mpr ⟨⟨s_isub dX0_sun_28, s_mo_bin _ _⟩, (List.forall_mem_cons.mpr ⟨s_r1 mk_13 dX0_sun_29, (fun _ h => absurd h List.not_mem_nil)⟩)⟩)⟩)⟩)⟩)⟩)⟩)⟩)⟩)⟩)⟩)⟩)⟩)⟩)⟩)⟩)⟩)
theorem km_13 : ∀ t ∈ tm_13, s_tok 13 t := (List.forall_mem_cons.mpr ⟨s_lift mk_13 kb_13_0, (fun _ h => absurd h List.not_mem_nil)⟩)
theorem dX0_letDown_0 : decode cX0_letDown 0 = .ok (.iload_n 2, 1) := by decide +kernel
theorem dX0_letDown_1 : decode cX0_letDown 1 = .ok (.invokestatic 112, 3) := by decide +kernel
theorem dX0_letDown_4 : decode cX0_letDown 4 = .ok (.bipush 100, 2) := by decide +kernel
theorem dX0_letDown_6 : decode cX0_letDown 6 = .ok (.aload_n 0, 1) := by decide +kernel
theorem dX0_letDown_7 : decode cX0_letDown 7 = .ok (.getfield 18, 3) := by decide +kernel
theorem dX0_letDown_10 : decode cX0_letDown 10 = .ok (.iload_n 1, 1) := by decide +kernel
theorem dX0_letDown_11 : decode cX0_letDown 11 = .ok (.iaload, 1) := by decide +kernel
theorem dX0_letDown_12 : decode cX0_letDown 12 = .ok (.isub, 1) := by decide +kernel
theorem dX0_letDown_13 : decode cX0_letDown 13 = .ok (.imul, 1) := by decide +kernel
theorem dX0_letDown_14 : decode cX0_letDown 14 = .ok (.bipush 100, 2) := by decide +kernel
theorem dX0_letDown_16 : decode cX0_letDown 16 = .ok (.idiv, 1) := by decide +kernel
theorem dX0_letDown_17 : decode cX0_letDown 17 = .ok (.istore_n 3, 1) := by decide +kernel
theorem dX0_letDown_18 : decode cX0_letDown 18 = .ok (.iload_n 3, 1) := by decide +kernel
theorem dX0_letDown_19 : decode cX0_letDown 19 = .ok (.bipush 12, 2) := by decide +kernel
theorem dX0_letDown_21 : decode cX0_letDown 21 = .ok (.aload_n 0, 1) := by decide +kernel
theorem dX0_letDown_22 : decode cX0_letDown 22 = .ok (.getfield 9, 3) := by decide +kernel
theorem dX0_letDown_25 : decode cX0_letDown 25 = .ok (.iload_n 1, 1) := by decide +kernel
theorem dX0_letDown_26 : decode cX0_letDown 26 = .ok (.iaload, 1) := by decide +kernel
theorem dX0_letDown_27 : decode cX0_letDown 27 = .ok (.isub, 1) := by decide +kernel
theorem dX0_letDown_28 : decode cX0_letDown 28 = .ok (.imul, 1) := by decide +kernel
theorem dX0_letDown_29 : decode cX0_letDown 29 = .ok (.bipush 12, 2) := by decide +kernel
theorem dX0_letDown_31 : decode cX0_letDown 31 = .ok (.idiv, 1) := by decide +kernel
theorem dX0_letDown_32 : decode cX0_letDown 32 = .ok (.istore 4, 2) := by decide +kernel
theorem dX0_letDown_34 : decode cX0_letDown 34 = .ok (.iload 4, 2) := by decide +kernel
theorem dX0_letDown_36 : decode cX0_letDown 36 = .ok (.iconst 5, 1) := by decide +kernel
theorem dX0_letDown_37 : decode cX0_letDown 37 = .ok (.aload_n 0, 1) := by decide +kernel
theorem dX0_letDown_38 : decode cX0_letDown 38 = .ok (.getfield 21, 3) := by decide +kernel
theorem dX0_letDown_41 : decode cX0_letDown 41 = .ok (.iload_n 1, 1) := by decide +kernel
theorem dX0_letDown_42 : decode cX0_letDown 42 = .ok (.iaload, 1) := by decide +kernel
theorem dX0_letDown_43 : decode cX0_letDown 43 = .ok (.imul, 1) := by decide +kernel
theorem dX0_letDown_44 : decode cX0_letDown 44 = .ok (.isub, 1) := by decide +kernel
theorem dX0_letDown_45 : decode cX0_letDown 45 = .ok (.iconst 0, 1) := by decide +kernel
theorem dX0_letDown_46 : decode cX0_letDown 46 = .ok (.invokestatic 92, 3) := by decide +kernel
theorem dX0_letDown_49 : decode cX0_letDown 49 = .ok (.ireturn, 1) := by decide +kernel
set_option maxRecDepth 20000 in
theorem kb_14_0 : ∀ q ∈ tb_14_0, s_atx 14 yX0_letDown cX0_letDown q.1 q.2 := (List.forall_mem_cons.mpr ⟨⟨s_ldIn dX0_letDown_0 rfl, s_mo_ldI _ _⟩, (List.forall_mem_cons.mpr ⟨⟨s_sS mk_14 mk_13 ok_13 (by decide +kernel) dX0_letDown_1 w_883 w_884, s_h0 mk_14⟩, (List.forall_mem_cons.mpr ⟨⟨s_bipush dX0_letDown_4 (by decide +kernel), s_mo_push _ _⟩, (List.forall_mem_cons.mpr ⟨⟨s_ldAn dX0_letDown_6 rfl, s_mo_ldA _ _⟩, (List.forall_mem_cons.mpr ⟨⟨s_getf (ci := 0) (k := 8) rfl (by decide) inX0 w_83 dX0_letDown_7, s_mo_getf _ _ _⟩, (List.forall_mem_cons.mpr ⟨⟨s_ldIn dX0_letDown_10 rfl, s_mo_ldI _ _⟩, (List.forall_mem_cons.mpr ⟨⟨s_iald dX0_letDown_11, s_mo_iald _⟩, (List.forall_mem_cons.mpr ⟨⟨s_isub dX0_letDown_12, s_mo_bin _ _⟩, (List.forall_mem_cons.mpr ⟨⟨s_imul dX0_letDown_13, s_mo_bin _ _⟩, (List.forall_mem_cons.mpr ⟨⟨s_bipush dX0_letDown_14 (by decide +kernel), s_mo_push _ _⟩, (List.forall_mem_cons.mpr ⟨⟨s_idiv dX0_letDown_16, s_mo_div _⟩, (List.forall_mem_cons.mpr ⟨⟨s_stIn dX0_letDown_17 rfl, s_mo_stI _ _⟩, (List.forall_mem_cons.mpr ⟨⟨s_ldIn dX0_letDown_18 rfl, s_mo_ldI _ _⟩, (List.forall_mem_cons.mpr ⟨⟨s_bipush dX0_letDown_19 (by decide +kernel), s_mo_push _ _⟩, (List.forall_mem_cons.mpr ⟨⟨s_ldAn dX0_letDown_21 rfl, s_mo_ldA _ _⟩, (List.forall_mem_cons.mpr ⟨⟨s_getf (ci := 0) (k := 6) rfl (by decide) inX0 w_71 dX0_letDown_22, s_mo_getf _ _ _⟩, (List.forall_mem_cons.mpr ⟨⟨s_ldIn dX0_letDown_25 rfl, s_mo_ldI _ _⟩, (List.forall_mem_cons.mpr ⟨⟨s_iald dX0_letDown_26, s_mo_iald _⟩, (List.forall_mem_cons.mpr ⟨⟨s_isub dX0_letDown_27, s_mo_bin _ _⟩, (List.forall_mem_cons.mpr ⟨⟨s_imul dX0_letDown_28, s_mo_bin _ _⟩, (List.forall_mem_cons.mpr ⟨⟨s_bipush dX0_letDown_29 (by decide +kernel), s_mo_push _ _⟩, (List.forall_mem_cons.mpr ⟨⟨s_idiv dX0_letDown_31, s_mo_div _⟩, (List.forall_mem_cons.mpr ⟨⟨s_stI dX0_letDown_32, s_mo_stI _ _⟩, (List.forall_mem_cons.mpr ⟨⟨s_ldI dX0_letDown_34, s_mo_ldI _ _⟩, (List.forall_mem_cons.mpr ⟨⟨s_iconst dX0_letDown_36 (by decide +kernel), s_mo_push _ _⟩, (List.forall_mem_cons.mpr ⟨⟨s_ldAn dX0_letDown_37 rfl, s_mo_ldA _ _⟩, (List.forall_mem_cons.mpr ⟨⟨s_getf (ci := 0) (k := 9) rfl (by decide) inX0 w_88 dX0_letDown_38, s_mo_getf _ _ _⟩, (List.forall_mem_cons.mpr ⟨⟨s_ldIn dX0_letDown_41 rfl, s_mo_ldI _ _⟩, (List.forall_mem_cons.mpr ⟨⟨s_iald dX0_letDown_42, s_mo_iald _⟩, (List.forall_mem_cons.mpr ⟨⟨s_imul dX0_letDown_43, s_mo_bin _ _⟩, (List.forall_mem_cons.mpr ⟨⟨s_isub dX0_letDown_44, s_mo_bin _ _⟩, (List.forall_mem_cons.mpr ⟨⟨s_iconst dX0_letDown_45 (by decide +kernel), s_mo_push _ _⟩, (List.forall_mem_cons.mpr ⟨⟨s_mx w_790 ws_mx w_mi wc_mx dX0_letDown_46, s_mo_mx _⟩, (List.forall_mem_cons.mpr ⟨s_r1 mk_14 dX0_letDown_49, (fun _ h => absurd h List.not_mem_nil)⟩)⟩)⟩)⟩)⟩)⟩)⟩)⟩)⟩)⟩)⟩)⟩)⟩)⟩)⟩)⟩)⟩)⟩)⟩)⟩)⟩)⟩)⟩)⟩)⟩)⟩)⟩)⟩)⟩)⟩)⟩)⟩)⟩)⟩)
theorem km_14 : ∀ t ∈ tm_14, s_tok 14 t := (List.forall_mem_cons.mpr ⟨s_lift mk_14 kb_14_0, (fun _ h => absurd h List.not_mem_nil)⟩)
theorem dX0_lightBelow_0 : decode cX0_lightBelow 0 = .ok (.aload_n 0, 1) := by decide +kernel
theorem dX0_lightBelow_1 : decode cX0_lightBelow 1 = .ok (.iload_n 1, 1) := by decide +kernel
theorem dX0_lightBelow_2 : decode cX0_lightBelow 2 = .ok (.iload_n 2, 1) := by decide +kernel
theorem dX0_lightBelow_3 : decode cX0_lightBelow 3 = .ok (.invokevirtual 115, 3) := by decide +kernel
theorem dX0_lightBelow_6 : decode cX0_lightBelow 6 = .ok (.aload_n 0, 1) := by decide +kernel
theorem dX0_lightBelow_7 : decode cX0_lightBelow 7 = .ok (.getfield 27, 3) := by decide +kernel
theorem dX0_lightBelow_10 : decode cX0_lightBelow 10 = .ok (.iload_n 1, 1) := by decide +kernel
theorem dX0_lightBelow_11 : decode cX0_lightBelow 11 = .ok (.iaload, 1) := by decide +kernel
theorem dX0_lightBelow_12 : decode cX0_lightBelow 12 = .ok (.iadd, 1) := by decide +kernel
theorem dX0_lightBelow_13 : decode cX0_lightBelow 13 = .ok (.ireturn, 1) := by decide +kernel
set_option maxRecDepth 20000 in
theorem kb_15_0 : ∀ q ∈ tb_15_0, s_atx 15 yX0_lightBelow cX0_lightBelow q.1 q.2 := (List.forall_mem_cons.mpr ⟨⟨s_ldAn dX0_lightBelow_0 rfl, s_mo_ldA _ _⟩, (List.forall_mem_cons.mpr ⟨⟨s_ldIn dX0_lightBelow_1 rfl, s_mo_ldI _ _⟩, (List.forall_mem_cons.mpr ⟨⟨s_ldIn dX0_lightBelow_2 rfl, s_mo_ldI _ _⟩, (List.forall_mem_cons.mpr ⟨⟨s_sV mk_15 mk_14 ok_14 (by decide +kernel) dX0_lightBelow_3 w_894 w_880 w_881 (Or.inr ⟨0, _, _, rfl, rfl⟩), s_h0 mk_15⟩, (List.forall_mem_cons.mpr ⟨⟨s_ldAn dX0_lightBelow_6 rfl, s_mo_ldA _ _⟩, (List.forall_mem_cons.mpr ⟨⟨s_getf (ci := 0) (k := 11) rfl (by decide) inX0 w_100 dX0_lightBelow_7, s_mo_getf _ _ _⟩, (List.forall_mem_cons.mpr ⟨⟨s_ldIn dX0_lightBelow_10 rfl, s_mo_ldI _ _⟩, (List.forall_mem_cons.mpr ⟨⟨s_iald dX0_lightBelow_11, s_mo_iald _⟩, (List.forall_mem_cons.mpr ⟨⟨s_iadd dX0_lightBelow_12, s_mo_bin _ _⟩, (List.forall_mem_cons.mpr ⟨s_r1 mk_15 dX0_lightBelow_13, (fun _ h => absurd h List.not_mem_nil)⟩)⟩)⟩)⟩)⟩)⟩)⟩)⟩)⟩)⟩)
theorem km_15 : ∀ t ∈ tm_15, s_tok 15 t := (List.forall_mem_cons.mpr ⟨s_lift mk_15 kb_15_0, (fun _ h => absurd h List.not_mem_nil)⟩)
theorem dX1_read_0 : decode cX1_read 0 = .ok (.aload_n 0, 1) := by decide +kernel
theorem dX1_read_1 : decode cX1_read 1 = .ok (.invokevirtual 9, 3) := by decide +kernel
theorem dX1_read_4 : decode cX1_read 4 = .ok (.ifCond .eq 5, 3) := by decide +kernel
theorem dX1_read_7 : decode cX1_read 7 = .ok (.iconst 1, 1) := by decide +kernel
theorem dX1_read_8 : decode cX1_read 8 = .ok (.ireturn, 1) := by decide +kernel
theorem dX1_read_9 : decode cX1_read 9 = .ok (.iconst 0, 1) := by decide +kernel
theorem dX1_read_10 : decode cX1_read 10 = .ok (.istore_n 2, 1) := by decide +kernel
theorem dX1_read_11 : decode cX1_read 11 = .ok (.iload_n 2, 1) := by decide +kernel
theorem dX1_read_12 : decode cX1_read 12 = .ok (.bipush 14, 2) := by decide +kernel
theorem dX1_read_14 : decode cX1_read 14 = .ok (.if_icmp .ge 42, 3) := by decide +kernel
theorem dX1_read_17 : decode cX1_read 17 = .ok (.aload_n 0, 1) := by decide +kernel
theorem dX1_read_18 : decode cX1_read 18 = .ok (.aload_n 1, 1) := by decide +kernel
theorem dX1_read_19 : decode cX1_read 19 = .ok (.invokestatic 17, 3) := by decide +kernel
theorem dX1_read_22 : decode cX1_read 22 = .ok (.ifCond .ne 5, 3) := by decide +kernel
theorem dX1_read_25 : decode cX1_read 25 = .ok (.iconst 0, 1) := by decide +kernel
theorem dX1_read_26 : decode cX1_read 26 = .ok (.ireturn, 1) := by decide +kernel
theorem dX1_read_27 : decode cX1_read 27 = .ok (.aload_n 0, 1) := by decide +kernel
theorem dX1_read_28 : decode cX1_read 28 = .ok (.invokevirtual 9, 3) := by decide +kernel
theorem dX1_read_31 : decode cX1_read 31 = .ok (.ifCond .eq 5, 3) := by decide +kernel
theorem dX1_read_34 : decode cX1_read 34 = .ok (.iconst 1, 1) := by decide +kernel
theorem dX1_read_35 : decode cX1_read 35 = .ok (.ireturn, 1) := by decide +kernel
theorem dX1_read_36 : decode cX1_read 36 = .ok (.aload_n 0, 1) := by decide +kernel
theorem dX1_read_37 : decode cX1_read 37 = .ok (.bipush 59, 2) := by decide +kernel
theorem dX1_read_39 : decode cX1_read 39 = .ok (.invokevirtual 21, 3) := by decide +kernel
theorem dX1_read_42 : decode cX1_read 42 = .ok (.ifCond .ne 8, 3) := by decide +kernel
theorem dX1_read_45 : decode cX1_read 45 = .ok (.aload_n 0, 1) := by decide +kernel
theorem dX1_read_46 : decode cX1_read 46 = .ok (.invokevirtual 25, 3) := by decide +kernel
theorem dX1_read_49 : decode cX1_read 49 = .ok (.ireturn, 1) := by decide +kernel
theorem dX1_read_50 : decode cX1_read 50 = .ok (.iinc 2 1, 3) := by decide +kernel
theorem dX1_read_53 : decode cX1_read 53 = .ok (.goto (-42), 3) := by decide +kernel
theorem dX1_read_56 : decode cX1_read 56 = .ok (.aload_n 0, 1) := by decide +kernel
theorem dX1_read_57 : decode cX1_read 57 = .ok (.invokevirtual 25, 3) := by decide +kernel
theorem dX1_read_60 : decode cX1_read 60 = .ok (.ireturn, 1) := by decide +kernel
set_option maxRecDepth 20000 in
theorem kb_16_0 : ∀ q ∈ tb_16_0, s_atx 16 yX1_read cX1_read q.1 q.2 := (List.forall_mem_cons.mpr ⟨⟨s_ldAn dX1_read_0 rfl, s_mo_ldA _ _⟩, (List.forall_mem_cons.mpr ⟨⟨s_sV mk_16 mk_80 ok_80 (by decide +kernel) dX1_read_1 w_503 w_504 w_505 (Or.inr ⟨5, _, _, rfl, rfl⟩), s_h0 mk_16⟩, (List.forall_mem_cons.mpr ⟨⟨s_ifeq dX1_read_4 (by decide), s_mo_ifeq _ _⟩, (List.forall_mem_cons.mpr ⟨⟨s_iconst dX1_read_7 (by decide +kernel), s_mo_push _ _⟩, (List.forall_mem_cons.mpr ⟨s_r2 mk_16 dX1_read_8, (List.forall_mem_cons.mpr ⟨⟨s_iconst dX1_read_9 (by decide +kernel), s_mo_push _ _⟩, (List.forall_mem_cons.mpr ⟨⟨s_stIn dX1_read_10 rfl, s_mo_stI _ _⟩, (List.forall_mem_cons.mpr ⟨⟨s_ldIn dX1_read_11 rfl, s_mo_ldI _ _⟩, (List.forall_mem_cons.mpr ⟨⟨s_bipush dX1_read_12 (by decide +kernel), s_mo_push _ _⟩, (List.forall_mem_cons.mpr ⟨⟨s_icge dX1_read_14 (by decide), s_mo_icge _ _⟩, (List.forall_mem_cons.mpr ⟨⟨s_ldAn dX1_read_17 rfl, s_mo_ldA _ _⟩, (List.forall_mem_cons.mpr ⟨⟨s_ldAn dX1_read_18 rfl, s_mo_ldA _ _⟩, (List.forall_mem_cons.mpr ⟨⟨s_sS mk_16 mk_17 ok_17 (by decide +kernel) dX1_read_19 w_511 w_512, s_h0 mk_16⟩, (List.forall_mem_cons.mpr ⟨⟨s_ifne dX1_read_22 (by decide), s_mo_ifne _ _⟩, (List.forall_mem_cons.mpr ⟨⟨s_iconst dX1_read_25 (by decide +kernel), s_mo_push _ _⟩, (List.forall_mem_cons.mpr ⟨s_r2 mk_16 dX1_read_26, (List.forall_mem_cons.mpr ⟨⟨s_ldAn dX1_read_27 rfl, s_mo_ldA _ _⟩, (List.forall_mem_cons.mpr ⟨⟨s_sV mk_16 mk_80 ok_80 (by decide +kernel) dX1_read_28 w_503 w_504 w_505 (Or.inr ⟨5, _, _, rfl, rfl⟩), s_h0 mk_16⟩, (List.forall_mem_cons.mpr ⟨⟨s_ifeq dX1_read_31 (by decide), s_mo_ifeq _ _⟩, (List.forall_mem_cons.mpr ⟨⟨s_iconst dX1_read_34 (by decide +kernel), s_mo_push _ _⟩, (List.forall_mem_cons.mpr ⟨s_r2 mk_16 dX1_read_35, (List.forall_mem_cons.mpr ⟨⟨s_ldAn dX1_read_36 rfl, s_mo_ldA _ _⟩, (List.forall_mem_cons.mpr ⟨⟨s_bipush dX1_read_37 (by decide +kernel), s_mo_push _ _⟩, (List.forall_mem_cons.mpr ⟨⟨s_sV mk_16 mk_81 ok_81 (by decide +kernel) dX1_read_39 w_612 w_613 w_614 (Or.inr ⟨5, _, _, rfl, rfl⟩), s_h0 mk_16⟩, (List.forall_mem_cons.mpr ⟨⟨s_ifne dX1_read_42 (by decide), s_mo_ifne _ _⟩, (List.forall_mem_cons.mpr ⟨⟨s_ldAn dX1_read_45 rfl, s_mo_ldA _ _⟩, (List.forall_mem_cons.mpr ⟨⟨s_sV mk_16 mk_84 ok_84 (by decide +kernel) dX1_read_46 w_603 w_604 w_605 (Or.inr ⟨5, _, _, rfl, rfl⟩), s_h0 mk_16⟩, (List.forall_mem_cons.mpr ⟨s_r2 mk_16 dX1_read_49, (List.forall_mem_cons.mpr ⟨⟨s_inc dX1_read_50 (by decide +kernel), s_mo_inc _ _ _⟩, (List.forall_mem_cons.mpr ⟨⟨s_goto dX1_read_53 (by decide), s_mo_goto _⟩, (List.forall_mem_cons.mpr ⟨⟨s_ldAn dX1_read_56 rfl, s_mo_ldA _ _⟩, (List.forall_mem_cons.mpr ⟨⟨s_sV mk_16 mk_84 ok_84 (by decide +kernel) dX1_read_57 w_603 w_604 w_605 (Or.inr ⟨5, _, _, rfl, rfl⟩), s_h0 mk_16⟩, (List.forall_mem_cons.mpr ⟨s_r2 mk_16 dX1_read_60, (fun _ h => absurd h List.not_mem_nil)⟩)⟩)⟩)⟩)⟩)⟩)⟩)⟩)⟩)⟩)⟩)⟩)⟩)⟩)⟩)⟩)⟩)⟩)⟩)⟩)⟩)⟩)⟩)⟩)⟩)⟩)⟩)⟩)⟩)⟩)⟩)⟩)⟩)
theorem km_16 : ∀ t ∈ tm_16, s_tok 16 t := (List.forall_mem_cons.mpr ⟨s_lift mk_16 kb_16_0, (fun _ h => absurd h List.not_mem_nil)⟩)
theorem dX1_readLine_0 : decode cX1_readLine 0 = .ok (.aload_n 0, 1) := by decide +kernel
theorem dX1_readLine_1 : decode cX1_readLine 1 = .ok (.ldc 28, 2) := by decide +kernel
theorem dX1_readLine_3 : decode cX1_readLine 3 = .ok (.invokevirtual 30, 3) := by decide +kernel
theorem dX1_readLine_6 : decode cX1_readLine 6 = .ok (.ifCond .eq 9, 3) := by decide +kernel
theorem dX1_readLine_9 : decode cX1_readLine 9 = .ok (.aload_n 0, 1) := by decide +kernel
theorem dX1_readLine_10 : decode cX1_readLine 10 = .ok (.aload_n 1, 1) := by decide +kernel
theorem dX1_readLine_11 : decode cX1_readLine 11 = .ok (.invokestatic 34, 3) := by decide +kernel
theorem dX1_readLine_14 : decode cX1_readLine 14 = .ok (.ireturn, 1) := by decide +kernel
theorem dX1_readLine_15 : decode cX1_readLine 15 = .ok (.aload_n 0, 1) := by decide +kernel
theorem dX1_readLine_16 : decode cX1_readLine 16 = .ok (.ldc 37, 2) := by decide +kernel
theorem dX1_readLine_18 : decode cX1_readLine 18 = .ok (.invokevirtual 30, 3) := by decide +kernel
theorem dX1_readLine_21 : decode cX1_readLine 21 = .ok (.ifCond .eq 16, 3) := by decide +kernel
theorem dX1_readLine_24 : decode cX1_readLine 24 = .ok (.aload_n 0, 1) := by decide +kernel
theorem dX1_readLine_25 : decode cX1_readLine 25 = .ok (.aload_n 1, 1) := by decide +kernel
theorem dX1_readLine_26 : decode cX1_readLine 26 = .ok (.aload_n 1, 1) := by decide +kernel
theorem dX1_readLine_27 : decode cX1_readLine 27 = .ok (.getfield 39, 3) := by decide +kernel
theorem dX1_readLine_30 : decode cX1_readLine 30 = .ok (.iconst 1, 1) := by decide +kernel
theorem dX1_readLine_31 : decode cX1_readLine 31 = .ok (.bipush 9, 2) := by decide +kernel
theorem dX1_readLine_33 : decode cX1_readLine 33 = .ok (.invokestatic 44, 3) := by decide +kernel
theorem dX1_readLine_36 : decode cX1_readLine 36 = .ok (.ireturn, 1) := by decide +kernel
theorem dX1_readLine_37 : decode cX1_readLine 37 = .ok (.aload_n 0, 1) := by decide +kernel
theorem dX1_readLine_38 : decode cX1_readLine 38 = .ok (.ldc 48, 2) := by decide +kernel
theorem dX1_readLine_40 : decode cX1_readLine 40 = .ok (.invokevirtual 30, 3) := by decide +kernel
theorem dX1_readLine_43 : decode cX1_readLine 43 = .ok (.ifCond .eq 16, 3) := by decide +kernel
theorem dX1_readLine_46 : decode cX1_readLine 46 = .ok (.aload_n 0, 1) := by decide +kernel
theorem dX1_readLine_47 : decode cX1_readLine 47 = .ok (.aload_n 1, 1) := by decide +kernel
theorem dX1_readLine_48 : decode cX1_readLine 48 = .ok (.aload_n 1, 1) := by decide +kernel
theorem dX1_readLine_49 : decode cX1_readLine 49 = .ok (.getfield 50, 3) := by decide +kernel
theorem dX1_readLine_52 : decode cX1_readLine 52 = .ok (.iconst 0, 1) := by decide +kernel
theorem dX1_readLine_53 : decode cX1_readLine 53 = .ok (.bipush 60, 2) := by decide +kernel
theorem dX1_readLine_55 : decode cX1_readLine 55 = .ok (.invokestatic 44, 3) := by decide +kernel
theorem dX1_readLine_58 : decode cX1_readLine 58 = .ok (.ireturn, 1) := by decide +kernel
theorem dX1_readLine_59 : decode cX1_readLine 59 = .ok (.aload_n 0, 1) := by decide +kernel
theorem dX1_readLine_60 : decode cX1_readLine 60 = .ok (.ldc 52, 2) := by decide +kernel
theorem dX1_readLine_62 : decode cX1_readLine 62 = .ok (.invokevirtual 30, 3) := by decide +kernel
theorem dX1_readLine_65 : decode cX1_readLine 65 = .ok (.ifCond .eq 9, 3) := by decide +kernel
theorem dX1_readLine_68 : decode cX1_readLine 68 = .ok (.aload_n 0, 1) := by decide +kernel
theorem dX1_readLine_69 : decode cX1_readLine 69 = .ok (.aload_n 1, 1) := by decide +kernel
theorem dX1_readLine_70 : decode cX1_readLine 70 = .ok (.invokestatic 54, 3) := by decide +kernel
theorem dX1_readLine_73 : decode cX1_readLine 73 = .ok (.ireturn, 1) := by decide +kernel
theorem dX1_readLine_74 : decode cX1_readLine 74 = .ok (.aload_n 0, 1) := by decide +kernel
theorem dX1_readLine_75 : decode cX1_readLine 75 = .ok (.ldc 57, 2) := by decide +kernel
theorem dX1_readLine_77 : decode cX1_readLine 77 = .ok (.invokevirtual 30, 3) := by decide +kernel
theorem dX1_readLine_80 : decode cX1_readLine 80 = .ok (.ifCond .eq 16, 3) := by decide +kernel
theorem dX1_readLine_83 : decode cX1_readLine 83 = .ok (.aload_n 0, 1) := by decide +kernel
theorem dX1_readLine_84 : decode cX1_readLine 84 = .ok (.aload_n 1, 1) := by decide +kernel
theorem dX1_readLine_85 : decode cX1_readLine 85 = .ok (.aload_n 1, 1) := by decide +kernel
theorem dX1_readLine_86 : decode cX1_readLine 86 = .ok (.getfield 59, 3) := by decide +kernel
theorem dX1_readLine_89 : decode cX1_readLine 89 = .ok (.iconst 0, 1) := by decide +kernel
theorem dX1_readLine_90 : decode cX1_readLine 90 = .ok (.bipush 100, 2) := by decide +kernel
theorem dX1_readLine_92 : decode cX1_readLine 92 = .ok (.invokestatic 44, 3) := by decide +kernel
theorem dX1_readLine_95 : decode cX1_readLine 95 = .ok (.ireturn, 1) := by decide +kernel
theorem dX1_readLine_96 : decode cX1_readLine 96 = .ok (.aload_n 0, 1) := by decide +kernel
theorem dX1_readLine_97 : decode cX1_readLine 97 = .ok (.ldc 61, 2) := by decide +kernel
theorem dX1_readLine_99 : decode cX1_readLine 99 = .ok (.invokevirtual 30, 3) := by decide +kernel
theorem dX1_readLine_102 : decode cX1_readLine 102 = .ok (.ifCond .eq 16, 3) := by decide +kernel
theorem dX1_readLine_105 : decode cX1_readLine 105 = .ok (.aload_n 0, 1) := by decide +kernel
theorem dX1_readLine_106 : decode cX1_readLine 106 = .ok (.aload_n 1, 1) := by decide +kernel
theorem dX1_readLine_107 : decode cX1_readLine 107 = .ok (.aload_n 1, 1) := by decide +kernel
theorem dX1_readLine_108 : decode cX1_readLine 108 = .ok (.getfield 63, 3) := by decide +kernel
theorem dX1_readLine_111 : decode cX1_readLine 111 = .ok (.iconst 0, 1) := by decide +kernel
theorem dX1_readLine_112 : decode cX1_readLine 112 = .ok (.bipush 7, 2) := by decide +kernel
theorem dX1_readLine_114 : decode cX1_readLine 114 = .ok (.invokestatic 44, 3) := by decide +kernel
theorem dX1_readLine_117 : decode cX1_readLine 117 = .ok (.ireturn, 1) := by decide +kernel
theorem dX1_readLine_118 : decode cX1_readLine 118 = .ok (.aload_n 0, 1) := by decide +kernel
theorem dX1_readLine_119 : decode cX1_readLine 119 = .ok (.ldc 65, 2) := by decide +kernel
theorem dX1_readLine_121 : decode cX1_readLine 121 = .ok (.invokevirtual 30, 3) := by decide +kernel
theorem dX1_readLine_124 : decode cX1_readLine 124 = .ok (.ifCond .eq 16, 3) := by decide +kernel
theorem dX1_readLine_127 : decode cX1_readLine 127 = .ok (.aload_n 0, 1) := by decide +kernel
theorem dX1_readLine_128 : decode cX1_readLine 128 = .ok (.aload_n 1, 1) := by decide +kernel
theorem dX1_readLine_129 : decode cX1_readLine 129 = .ok (.aload_n 1, 1) := by decide +kernel
theorem dX1_readLine_130 : decode cX1_readLine 130 = .ok (.getfield 67, 3) := by decide +kernel
theorem dX1_readLine_133 : decode cX1_readLine 133 = .ok (.iconst 0, 1) := by decide +kernel
theorem dX1_readLine_134 : decode cX1_readLine 134 = .ok (.bipush 99, 2) := by decide +kernel
theorem dX1_readLine_136 : decode cX1_readLine 136 = .ok (.invokestatic 44, 3) := by decide +kernel
theorem dX1_readLine_139 : decode cX1_readLine 139 = .ok (.ireturn, 1) := by decide +kernel
theorem dX1_readLine_140 : decode cX1_readLine 140 = .ok (.aload_n 0, 1) := by decide +kernel
theorem dX1_readLine_141 : decode cX1_readLine 141 = .ok (.ldc 69, 2) := by decide +kernel
theorem dX1_readLine_143 : decode cX1_readLine 143 = .ok (.invokevirtual 30, 3) := by decide +kernel
theorem dX1_readLine_146 : decode cX1_readLine 146 = .ok (.ifCond .eq 25, 3) := by decide +kernel
theorem dX1_readLine_149 : decode cX1_readLine 149 = .ok (.aload_n 1, 1) := by decide +kernel
theorem dX1_readLine_150 : decode cX1_readLine 150 = .ok (.getfield 71, 3) := by decide +kernel
theorem dX1_readLine_153 : decode cX1_readLine 153 = .ok (.bipush 12, 2) := by decide +kernel
theorem dX1_readLine_155 : decode cX1_readLine 155 = .ok (.if_icmp .ge 11, 3) := by decide +kernel
theorem dX1_readLine_158 : decode cX1_readLine 158 = .ok (.aload_n 0, 1) := by decide +kernel
theorem dX1_readLine_159 : decode cX1_readLine 159 = .ok (.aload_n 1, 1) := by decide +kernel
theorem dX1_readLine_160 : decode cX1_readLine 160 = .ok (.invokestatic 75, 3) := by decide +kernel
theorem dX1_readLine_163 : decode cX1_readLine 163 = .ok (.goto 7, 3) := by decide +kernel
theorem dX1_readLine_166 : decode cX1_readLine 166 = .ok (.aload_n 0, 1) := by decide +kernel
theorem dX1_readLine_167 : decode cX1_readLine 167 = .ok (.invokevirtual 78, 3) := by decide +kernel
theorem dX1_readLine_170 : decode cX1_readLine 170 = .ok (.ireturn, 1) := by decide +kernel
theorem dX1_readLine_171 : decode cX1_readLine 171 = .ok (.aload_n 0, 1) := by decide +kernel
theorem dX1_readLine_172 : decode cX1_readLine 172 = .ok (.invokevirtual 25, 3) := by decide +kernel
theorem dX1_readLine_175 : decode cX1_readLine 175 = .ok (.ireturn, 1) := by decide +kernel
set_option maxRecDepth 20000 in
theorem kb_17_0 : ∀ q ∈ tb_17_0, s_atx 17 yX1_readLine cX1_readLine q.1 q.2 := (List.forall_mem_cons.mpr ⟨⟨s_ldAn dX1_readLine_0 rfl, s_mo_ldA _ _⟩, (List.forall_mem_cons.mpr ⟨⟨s_ldcS (tx := "size") (List.mem_of_getElem? (i := 0) rfl) dX1_readLine_1, s_mo_push _ _⟩, (List.forall_mem_cons.mpr ⟨⟨s_sV mk_17 mk_82 ok_82 (by decide +kernel) dX1_readLine_3 w_515 w_516 w_517 (Or.inr ⟨5, _, _, rfl, rfl⟩), s_h0 mk_17⟩, (List.forall_mem_cons.mpr ⟨⟨s_ifeq dX1_readLine_6 (by decide), s_mo_ifeq _ _⟩, (List.forall_mem_cons.mpr ⟨⟨s_ldAn dX1_readLine_9 rfl, s_mo_ldA _ _⟩, (List.forall_mem_cons.mpr ⟨⟨s_ldAn dX1_readLine_10 rfl, s_mo_ldA _ _⟩, (List.forall_mem_cons.mpr ⟨⟨s_sS mk_17 mk_18 ok_18 (by decide +kernel) dX1_readLine_11 w_571 w_572, s_h0 mk_17⟩, (List.forall_mem_cons.mpr ⟨s_r2 mk_17 dX1_readLine_14, (List.forall_mem_cons.mpr ⟨⟨s_ldAn dX1_readLine_15 rfl, s_mo_ldA _ _⟩, (List.forall_mem_cons.mpr ⟨⟨s_ldcS (tx := "thick") (List.mem_of_getElem? (i := 1) rfl) dX1_readLine_16, s_mo_push _ _⟩, (List.forall_mem_cons.mpr ⟨⟨s_sV mk_17 mk_82 ok_82 (by decide +kernel) dX1_readLine_18 w_515 w_516 w_517 (Or.inr ⟨5, _, _, rfl, rfl⟩), s_h0 mk_17⟩, (List.forall_mem_cons.mpr ⟨⟨s_ifeq dX1_readLine_21 (by decide), s_mo_ifeq _ _⟩, (List.forall_mem_cons.mpr ⟨⟨s_ldAn dX1_readLine_24 rfl, s_mo_ldA _ _⟩, (List.forall_mem_cons.mpr ⟨⟨s_ldAn dX1_readLine_25 rfl, s_mo_ldA _ _⟩, (List.forall_mem_cons.mpr ⟨⟨s_ldAn dX1_readLine_26 rfl, s_mo_ldA _ _⟩, (List.forall_mem_cons.mpr ⟨⟨s_getf (ci := 0) (k := 6) rfl (by decide) inX0 w_73 dX1_readLine_27, s_mo_getf _ _ _⟩, (List.forall_mem_cons.mpr ⟨⟨s_iconst dX1_readLine_30 (by decide +kernel), s_mo_push _ _⟩, (List.forall_mem_cons.mpr ⟨⟨s_bipush dX1_readLine_31 (by decide +kernel), s_mo_push _ _⟩, (List.forall_mem_cons.mpr ⟨⟨s_sS mk_17 mk_19 ok_19 (by decide +kernel) dX1_readLine_33 w_584 w_585, s_h0 mk_17⟩, (List.forall_mem_cons.mpr ⟨s_r2 mk_17 dX1_readLine_36, (List.forall_mem_cons.mpr ⟨⟨s_ldAn dX1_readLine_37 rfl, s_mo_ldA _ _⟩, (List.forall_mem_cons.mpr ⟨⟨s_ldcS (tx := "heat") (List.mem_of_getElem? (i := 2) rfl) dX1_readLine_38, s_mo_push _ _⟩, (List.forall_mem_cons.mpr ⟨⟨s_sV mk_17 mk_82 ok_82 (by decide +kernel) dX1_readLine_40 w_515 w_516 w_517 (Or.inr ⟨5, _, _, rfl, rfl⟩), s_h0 mk_17⟩, (List.forall_mem_cons.mpr ⟨⟨s_ifeq dX1_readLine_43 (by decide), s_mo_ifeq _ _⟩, (List.forall_mem_cons.mpr ⟨⟨s_ldAn dX1_readLine_46 rfl, s_mo_ldA _ _⟩, (List.forall_mem_cons.mpr ⟨⟨s_ldAn dX1_readLine_47 rfl, s_mo_ldA _ _⟩, (List.forall_mem_cons.mpr ⟨⟨s_ldAn dX1_readLine_48 rfl, s_mo_ldA _ _⟩, (List.forall_mem_cons.mpr ⟨⟨s_getf (ci := 0) (k := 7) rfl (by decide) inX0 w_81 dX1_readLine_49, s_mo_getf _ _ _⟩, (List.forall_mem_cons.mpr ⟨⟨s_iconst dX1_readLine_52 (by decide +kernel), s_mo_push _ _⟩, (List.forall_mem_cons.mpr ⟨⟨s_bipush dX1_readLine_53 (by decide +kernel), s_mo_push _ _⟩, (List.forall_mem_cons.mpr ⟨⟨s_sS mk_17 mk_19 ok_19 (by decide +kernel) dX1_readLine_55 w_584 w_585, s_h0 mk_17⟩, (List.forall_mem_cons.mpr ⟨s_r2 mk_17 dX1_readLine_58, (List.forall_mem_cons.mpr ⟨⟨s_ldAn dX1_readLine_59 rfl, s_mo_ldA _ _⟩, (List.forall_mem_cons.mpr ⟨⟨s_ldcS (tx := "cold") (List.mem_of_getElem? (i := 3) rfl) dX1_readLine_60, s_mo_push _ _⟩, (List.forall_mem_cons.mpr ⟨⟨s_sV mk_17 mk_82 ok_82 (by decide +kernel) dX1_readLine_62 w_515 w_516 w_517 (Or.inr ⟨5, _, _, rfl, rfl⟩), s_h0 mk_17⟩, (fun _ h => absurd h List.not_mem_nil)⟩)⟩)⟩)⟩)⟩)⟩)⟩)⟩)⟩)⟩)⟩)⟩)⟩)⟩)⟩)⟩)⟩)⟩)⟩)⟩)⟩)⟩)⟩)⟩)⟩)⟩)⟩)⟩)⟩)⟩)⟩)⟩)⟩)⟩)⟩)
set_option maxRecDepth 20000 in
theorem kb_17_1 : ∀ q ∈ tb_17_1, s_atx 17 yX1_readLine cX1_readLine q.1 q.2 := (List.forall_mem_cons.mpr ⟨⟨s_ifeq dX1_readLine_65 (by decide), s_mo_ifeq _ _⟩, (List.forall_mem_cons.mpr ⟨⟨s_ldAn dX1_readLine_68 rfl, s_mo_ldA _ _⟩, (List.forall_mem_cons.mpr ⟨⟨s_ldAn dX1_readLine_69 rfl, s_mo_ldA _ _⟩, (List.forall_mem_cons.mpr ⟨⟨s_sS mk_17 mk_20 ok_20 (by decide +kernel) dX1_readLine_70 w_592 w_593, s_h0 mk_17⟩, (List.forall_mem_cons.mpr ⟨s_r2 mk_17 dX1_readLine_73, (List.forall_mem_cons.mpr ⟨⟨s_ldAn dX1_readLine_74 rfl, s_mo_ldA _ _⟩, (List.forall_mem_cons.mpr ⟨⟨s_ldcS (tx := "sand") (List.mem_of_getElem? (i := 4) rfl) dX1_readLine_75, s_mo_push _ _⟩, (List.forall_mem_cons.mpr ⟨⟨s_sV mk_17 mk_82 ok_82 (by decide +kernel) dX1_readLine_77 w_515 w_516 w_517 (Or.inr ⟨5, _, _, rfl, rfl⟩), s_h0 mk_17⟩, (List.forall_mem_cons.mpr ⟨⟨s_ifeq dX1_readLine_80 (by decide), s_mo_ifeq _ _⟩, (List.forall_mem_cons.mpr ⟨⟨s_ldAn dX1_readLine_83 rfl, s_mo_ldA _ _⟩, (List.forall_mem_cons.mpr ⟨⟨s_ldAn dX1_readLine_84 rfl, s_mo_ldA _ _⟩, (List.forall_mem_cons.mpr ⟨⟨s_ldAn dX1_readLine_85 rfl, s_mo_ldA _ _⟩, (List.forall_mem_cons.mpr ⟨⟨s_getf (ci := 0) (k := 8) rfl (by decide) inX0 w_85 dX1_readLine_86, s_mo_getf _ _ _⟩, (List.forall_mem_cons.mpr ⟨⟨s_iconst dX1_readLine_89 (by decide +kernel), s_mo_push _ _⟩, (List.forall_mem_cons.mpr ⟨⟨s_bipush dX1_readLine_90 (by decide +kernel), s_mo_push _ _⟩, (List.forall_mem_cons.mpr ⟨⟨s_sS mk_17 mk_19 ok_19 (by decide +kernel) dX1_readLine_92 w_584 w_585, s_h0 mk_17⟩, (List.forall_mem_cons.mpr ⟨s_r2 mk_17 dX1_readLine_95, (List.forall_mem_cons.mpr ⟨⟨s_ldAn dX1_readLine_96 rfl, s_mo_ldA _ _⟩, (List.forall_mem_cons.mpr ⟨⟨s_ldcS (tx := "owner") (List.mem_of_getElem? (i := 5) rfl) dX1_readLine_97, s_mo_push _ _⟩, (List.forall_mem_cons.mpr ⟨⟨s_sV mk_17 mk_82 ok_82 (by decide +kernel) dX1_readLine_99 w_515 w_516 w_517 (Or.inr ⟨5, _, _, rfl, rfl⟩), s_h0 mk_17⟩, (List.forall_mem_cons.mpr ⟨⟨s_ifeq dX1_readLine_102 (by decide), s_mo_ifeq _ _⟩, (List.forall_mem_cons.mpr ⟨⟨s_ldAn dX1_readLine_105 rfl, s_mo_ldA _ _⟩, (List.forall_mem_cons.mpr ⟨⟨s_ldAn dX1_readLine_106 rfl, s_mo_ldA _ _⟩, (List.forall_mem_cons.mpr ⟨⟨s_ldAn dX1_readLine_107 rfl, s_mo_ldA _ _⟩, (List.forall_mem_cons.mpr ⟨⟨s_getf (ci := 0) (k := 10) rfl (by decide) inX0 w_97 dX1_readLine_108, s_mo_getf _ _ _⟩, (List.forall_mem_cons.mpr ⟨⟨s_iconst dX1_readLine_111 (by decide +kernel), s_mo_push _ _⟩, (List.forall_mem_cons.mpr ⟨⟨s_bipush dX1_readLine_112 (by decide +kernel), s_mo_push _ _⟩, (List.forall_mem_cons.mpr ⟨⟨s_sS mk_17 mk_19 ok_19 (by decide +kernel) dX1_readLine_114 w_584 w_585, s_h0 mk_17⟩, (List.forall_mem_cons.mpr ⟨s_r2 mk_17 dX1_readLine_117, (List.forall_mem_cons.mpr ⟨⟨s_ldAn dX1_readLine_118 rfl, s_mo_ldA _ _⟩, (List.forall_mem_cons.mpr ⟨⟨s_ldcS (tx := "lamp") (List.mem_of_getElem? (i := 6) rfl) dX1_readLine_119, s_mo_push _ _⟩, (List.forall_mem_cons.mpr ⟨⟨s_sV mk_17 mk_82 ok_82 (by decide +kernel) dX1_readLine_121 w_515 w_516 w_517 (Or.inr ⟨5, _, _, rfl, rfl⟩), s_h0 mk_17⟩, (List.forall_mem_cons.mpr ⟨⟨s_ifeq dX1_readLine_124 (by decide), s_mo_ifeq _ _⟩, (List.forall_mem_cons.mpr ⟨⟨s_ldAn dX1_readLine_127 rfl, s_mo_ldA _ _⟩, (fun _ h => absurd h List.not_mem_nil)⟩)⟩)⟩)⟩)⟩)⟩)⟩)⟩)⟩)⟩)⟩)⟩)⟩)⟩)⟩)⟩)⟩)⟩)⟩)⟩)⟩)⟩)⟩)⟩)⟩)⟩)⟩)⟩)⟩)⟩)⟩)⟩)⟩)⟩)
set_option maxRecDepth 20000 in
theorem kb_17_2 : ∀ q ∈ tb_17_2, s_atx 17 yX1_readLine cX1_readLine q.1 q.2 := (List.forall_mem_cons.mpr ⟨⟨s_ldAn dX1_readLine_128 rfl, s_mo_ldA _ _⟩, (List.forall_mem_cons.mpr ⟨⟨s_ldAn dX1_readLine_129 rfl, s_mo_ldA _ _⟩, (List.forall_mem_cons.mpr ⟨⟨s_getf (ci := 0) (k := 11) rfl (by decide) inX0 w_101 dX1_readLine_130, s_mo_getf _ _ _⟩, (List.forall_mem_cons.mpr ⟨⟨s_iconst dX1_readLine_133 (by decide +kernel), s_mo_push _ _⟩, (List.forall_mem_cons.mpr ⟨⟨s_bipush dX1_readLine_134 (by decide +kernel), s_mo_push _ _⟩, (List.forall_mem_cons.mpr ⟨⟨s_sS mk_17 mk_19 ok_19 (by decide +kernel) dX1_readLine_136 w_584 w_585, s_h0 mk_17⟩, (List.forall_mem_cons.mpr ⟨s_r2 mk_17 dX1_readLine_139, (List.forall_mem_cons.mpr ⟨⟨s_ldAn dX1_readLine_140 rfl, s_mo_ldA _ _⟩, (List.forall_mem_cons.mpr ⟨⟨s_ldcS (tx := "cart") (List.mem_of_getElem? (i := 7) rfl) dX1_readLine_141, s_mo_push _ _⟩, (List.forall_mem_cons.mpr ⟨⟨s_sV mk_17 mk_82 ok_82 (by decide +kernel) dX1_readLine_143 w_515 w_516 w_517 (Or.inr ⟨5, _, _, rfl, rfl⟩), s_h0 mk_17⟩, (List.forall_mem_cons.mpr ⟨⟨s_ifeq dX1_readLine_146 (by decide), s_mo_ifeq _ _⟩, (List.forall_mem_cons.mpr ⟨⟨s_ldAn dX1_readLine_149 rfl, s_mo_ldA _ _⟩, (List.forall_mem_cons.mpr ⟨⟨s_getf (ci := 0) (k := 12) rfl (by decide) inX0 w_105 dX1_readLine_150, s_mo_getf _ _ _⟩, (List.forall_mem_cons.mpr ⟨⟨s_bipush dX1_readLine_153 (by decide +kernel), s_mo_push _ _⟩, (List.forall_mem_cons.mpr ⟨⟨s_icge dX1_readLine_155 (by decide), s_mo_icge _ _⟩, (List.forall_mem_cons.mpr ⟨⟨s_ldAn dX1_readLine_158 rfl, s_mo_ldA _ _⟩, (List.forall_mem_cons.mpr ⟨⟨s_ldAn dX1_readLine_159 rfl, s_mo_ldA _ _⟩, (List.forall_mem_cons.mpr ⟨⟨s_sS mk_17 mk_21 ok_21 (by decide +kernel) dX1_readLine_160 w_599 w_600, s_h0 mk_17⟩, (List.forall_mem_cons.mpr ⟨⟨s_goto dX1_readLine_163 (by decide), s_mo_goto _⟩, (List.forall_mem_cons.mpr ⟨⟨s_ldAn dX1_readLine_166 rfl, s_mo_ldA _ _⟩, (List.forall_mem_cons.mpr ⟨⟨s_sV mk_17 mk_85 ok_85 (by decide +kernel) dX1_readLine_167 w_608 w_609 w_610 (Or.inr ⟨5, _, _, rfl, rfl⟩), s_h0 mk_17⟩, (List.forall_mem_cons.mpr ⟨s_r2 mk_17 dX1_readLine_170, (List.forall_mem_cons.mpr ⟨⟨s_ldAn dX1_readLine_171 rfl, s_mo_ldA _ _⟩, (List.forall_mem_cons.mpr ⟨⟨s_sV mk_17 mk_84 ok_84 (by decide +kernel) dX1_readLine_172 w_603 w_604 w_605 (Or.inr ⟨5, _, _, rfl, rfl⟩), s_h0 mk_17⟩, (List.forall_mem_cons.mpr ⟨s_r2 mk_17 dX1_readLine_175, (fun _ h => absurd h List.not_mem_nil)⟩)⟩)⟩)⟩)⟩)⟩)⟩)⟩)⟩)⟩)⟩)⟩)⟩)⟩)⟩)⟩)⟩)⟩)⟩)⟩)⟩)⟩)⟩)⟩)⟩)
theorem km_17 : ∀ t ∈ tm_17, s_tok 17 t := (List.forall_mem_cons.mpr ⟨s_lift mk_17 kb_17_0, (List.forall_mem_cons.mpr ⟨s_lift mk_17 kb_17_1, (List.forall_mem_cons.mpr ⟨s_lift mk_17 kb_17_2, (fun _ h => absurd h List.not_mem_nil)⟩)⟩)⟩)
theorem dX1_readSize_0 : decode cX1_readSize 0 = .ok (.aload_n 0, 1) := by decide +kernel
theorem dX1_readSize_1 : decode cX1_readSize 1 = .ok (.iconst 1, 1) := by decide +kernel
theorem dX1_readSize_2 : decode cX1_readSize 2 = .ok (.bipush 6, 2) := by decide +kernel
theorem dX1_readSize_4 : decode cX1_readSize 4 = .ok (.invokevirtual 81, 3) := by decide +kernel
theorem dX1_readSize_7 : decode cX1_readSize 7 = .ok (.istore_n 2, 1) := by decide +kernel
theorem dX1_readSize_8 : decode cX1_readSize 8 = .ok (.iload_n 2, 1) := by decide +kernel
theorem dX1_readSize_9 : decode cX1_readSize 9 = .ok (.iconst (-1), 1) := by decide +kernel
theorem dX1_readSize_10 : decode cX1_readSize 10 = .ok (.if_icmp .ne 5, 3) := by decide +kernel
theorem dX1_readSize_13 : decode cX1_readSize 13 = .ok (.iconst 0, 1) := by decide +kernel
theorem dX1_readSize_14 : decode cX1_readSize 14 = .ok (.ireturn, 1) := by decide +kernel
theorem dX1_readSize_15 : decode cX1_readSize 15 = .ok (.aload_n 0, 1) := by decide +kernel
theorem dX1_readSize_16 : decode cX1_readSize 16 = .ok (.iconst 1, 1) := by decide +kernel
theorem dX1_readSize_17 : decode cX1_readSize 17 = .ok (.iconst 5, 1) := by decide +kernel
theorem dX1_readSize_18 : decode cX1_readSize 18 = .ok (.invokevirtual 81, 3) := by decide +kernel
theorem dX1_readSize_21 : decode cX1_readSize 21 = .ok (.istore_n 3, 1) := by decide +kernel
theorem dX1_readSize_22 : decode cX1_readSize 22 = .ok (.iload_n 3, 1) := by decide +kernel
theorem dX1_readSize_23 : decode cX1_readSize 23 = .ok (.iconst (-1), 1) := by decide +kernel
theorem dX1_readSize_24 : decode cX1_readSize 24 = .ok (.if_icmp .ne 5, 3) := by decide +kernel
theorem dX1_readSize_27 : decode cX1_readSize 27 = .ok (.iconst 0, 1) := by decide +kernel
theorem dX1_readSize_28 : decode cX1_readSize 28 = .ok (.ireturn, 1) := by decide +kernel
theorem dX1_readSize_29 : decode cX1_readSize 29 = .ok (.aload_n 1, 1) := by decide +kernel
theorem dX1_readSize_30 : decode cX1_readSize 30 = .ok (.iload_n 2, 1) := by decide +kernel
theorem dX1_readSize_31 : decode cX1_readSize 31 = .ok (.iload_n 3, 1) := by decide +kernel
theorem dX1_readSize_32 : decode cX1_readSize 32 = .ok (.invokevirtual 85, 3) := by decide +kernel
theorem dX1_readSize_35 : decode cX1_readSize 35 = .ok (.iconst 1, 1) := by decide +kernel
theorem dX1_readSize_36 : decode cX1_readSize 36 = .ok (.ireturn, 1) := by decide +kernel
set_option maxRecDepth 20000 in
theorem kb_18_0 : ∀ q ∈ tb_18_0, s_atx 18 yX1_readSize cX1_readSize q.1 q.2 := (List.forall_mem_cons.mpr ⟨⟨s_ldAn dX1_readSize_0 rfl, s_mo_ldA _ _⟩, (List.forall_mem_cons.mpr ⟨⟨s_iconst dX1_readSize_1 (by decide +kernel), s_mo_push _ _⟩, (List.forall_mem_cons.mpr ⟨⟨s_bipush dX1_readSize_2 (by decide +kernel), s_mo_push _ _⟩, (List.forall_mem_cons.mpr ⟨⟨s_sV mk_18 mk_83 ok_83 (by decide +kernel) dX1_readSize_4 w_574 w_575 w_576 (Or.inr ⟨5, _, _, rfl, rfl⟩), s_h0 mk_18⟩, (List.forall_mem_cons.mpr ⟨⟨s_stIn dX1_readSize_7 rfl, s_mo_stI _ _⟩, (List.forall_mem_cons.mpr ⟨⟨s_ldIn dX1_readSize_8 rfl, s_mo_ldI _ _⟩, (List.forall_mem_cons.mpr ⟨⟨s_iconst dX1_readSize_9 (by decide +kernel), s_mo_push _ _⟩, (List.forall_mem_cons.mpr ⟨⟨s_icne dX1_readSize_10 (by decide), s_mo_icne _ _⟩, (List.forall_mem_cons.mpr ⟨⟨s_iconst dX1_readSize_13 (by decide +kernel), s_mo_push _ _⟩, (List.forall_mem_cons.mpr ⟨s_r2 mk_18 dX1_readSize_14, (List.forall_mem_cons.mpr ⟨⟨s_ldAn dX1_readSize_15 rfl, s_mo_ldA _ _⟩, (List.forall_mem_cons.mpr ⟨⟨s_iconst dX1_readSize_16 (by decide +kernel), s_mo_push _ _⟩, (List.forall_mem_cons.mpr ⟨⟨s_iconst dX1_readSize_17 (by decide +kernel), s_mo_push _ _⟩, (List.forall_mem_cons.mpr ⟨⟨s_sV mk_18 mk_83 ok_83 (by decide +kernel) dX1_readSize_18 w_574 w_575 w_576 (Or.inr ⟨5, _, _, rfl, rfl⟩), s_h0 mk_18⟩, (List.forall_mem_cons.mpr ⟨⟨s_stIn dX1_readSize_21 rfl, s_mo_stI _ _⟩, (List.forall_mem_cons.mpr ⟨⟨s_ldIn dX1_readSize_22 rfl, s_mo_ldI _ _⟩, (List.forall_mem_cons.mpr ⟨⟨s_iconst dX1_readSize_23 (by decide +kernel), s_mo_push _ _⟩, (List.forall_mem_cons.mpr ⟨⟨s_icne dX1_readSize_24 (by decide), s_mo_icne _ _⟩, (List.forall_mem_cons.mpr ⟨⟨s_iconst dX1_readSize_27 (by decide +kernel), s_mo_push _ _⟩, (List.forall_mem_cons.mpr ⟨s_r2 mk_18 dX1_readSize_28, (List.forall_mem_cons.mpr ⟨⟨s_ldAn dX1_readSize_29 rfl, s_mo_ldA _ _⟩, (List.forall_mem_cons.mpr ⟨⟨s_ldIn dX1_readSize_30 rfl, s_mo_ldI _ _⟩, (List.forall_mem_cons.mpr ⟨⟨s_ldIn dX1_readSize_31 rfl, s_mo_ldI _ _⟩, (List.forall_mem_cons.mpr ⟨⟨s_sV mk_18 mk_1 ok_1 (by decide +kernel) dX1_readSize_32 w_582 w_44 w_45 (Or.inr ⟨0, _, _, rfl, rfl⟩), s_h0 mk_18⟩, (List.forall_mem_cons.mpr ⟨⟨s_iconst dX1_readSize_35 (by decide +kernel), s_mo_push _ _⟩, (List.forall_mem_cons.mpr ⟨s_r2 mk_18 dX1_readSize_36, (fun _ h => absurd h List.not_mem_nil)⟩)⟩)⟩)⟩)⟩)⟩)⟩)⟩)⟩)⟩)⟩)⟩)⟩)⟩)⟩)⟩)⟩)⟩)⟩)⟩)⟩)⟩)⟩)⟩)⟩)⟩)
theorem km_18 : ∀ t ∈ tm_18, s_tok 18 t := (List.forall_mem_cons.mpr ⟨s_lift mk_18 kb_18_0, (fun _ h => absurd h List.not_mem_nil)⟩)
theorem dX1_readPart_0 : decode cX1_readPart 0 = .ok (.aload_n 0, 1) := by decide +kernel
theorem dX1_readPart_1 : decode cX1_readPart 1 = .ok (.aload_n 1, 1) := by decide +kernel
theorem dX1_readPart_2 : decode cX1_readPart 2 = .ok (.invokestatic 89, 3) := by decide +kernel
theorem dX1_readPart_5 : decode cX1_readPart 5 = .ok (.istore 5, 2) := by decide +kernel
theorem dX1_readPart_7 : decode cX1_readPart 7 = .ok (.iload 5, 2) := by decide +kernel
theorem dX1_readPart_9 : decode cX1_readPart 9 = .ok (.iconst (-1), 1) := by decide +kernel
theorem dX1_readPart_10 : decode cX1_readPart 10 = .ok (.if_icmp .ne 5, 3) := by decide +kernel
theorem dX1_readPart_13 : decode cX1_readPart 13 = .ok (.iconst 0, 1) := by decide +kernel
theorem dX1_readPart_14 : decode cX1_readPart 14 = .ok (.ireturn, 1) := by decide +kernel
theorem dX1_readPart_15 : decode cX1_readPart 15 = .ok (.aload_n 0, 1) := by decide +kernel
theorem dX1_readPart_16 : decode cX1_readPart 16 = .ok (.iload_n 3, 1) := by decide +kernel
theorem dX1_readPart_17 : decode cX1_readPart 17 = .ok (.iload 4, 2) := by decide +kernel
theorem dX1_readPart_19 : decode cX1_readPart 19 = .ok (.invokevirtual 81, 3) := by decide +kernel
theorem dX1_readPart_22 : decode cX1_readPart 22 = .ok (.istore 6, 2) := by decide +kernel
theorem dX1_readPart_24 : decode cX1_readPart 24 = .ok (.iload 6, 2) := by decide +kernel
theorem dX1_readPart_26 : decode cX1_readPart 26 = .ok (.iconst (-1), 1) := by decide +kernel
theorem dX1_readPart_27 : decode cX1_readPart 27 = .ok (.if_icmp .ne 5, 3) := by decide +kernel
theorem dX1_readPart_30 : decode cX1_readPart 30 = .ok (.iconst 0, 1) := by decide +kernel
theorem dX1_readPart_31 : decode cX1_readPart 31 = .ok (.ireturn, 1) := by decide +kernel
theorem dX1_readPart_32 : decode cX1_readPart 32 = .ok (.aload_n 2, 1) := by decide +kernel
theorem dX1_readPart_33 : decode cX1_readPart 33 = .ok (.iload 5, 2) := by decide +kernel
theorem dX1_readPart_35 : decode cX1_readPart 35 = .ok (.iload 6, 2) := by decide +kernel
theorem dX1_readPart_37 : decode cX1_readPart 37 = .ok (.iastore, 1) := by decide +kernel
theorem dX1_readPart_38 : decode cX1_readPart 38 = .ok (.iconst 1, 1) := by decide +kernel
theorem dX1_readPart_39 : decode cX1_readPart 39 = .ok (.ireturn, 1) := by decide +kernel
set_option maxRecDepth 20000 in
theorem kb_19_0 : ∀ q ∈ tb_19_0, s_atx 19 yX1_readPart cX1_readPart q.1 q.2 := (List.forall_mem_cons.mpr ⟨⟨s_ldAn dX1_readPart_0 rfl, s_mo_ldA _ _⟩, (List.forall_mem_cons.mpr ⟨⟨s_ldAn dX1_readPart_1 rfl, s_mo_ldA _ _⟩, (List.forall_mem_cons.mpr ⟨⟨s_sS mk_19 mk_22 ok_22 (by decide +kernel) dX1_readPart_2 w_587 w_588, s_h0 mk_19⟩, (List.forall_mem_cons.mpr ⟨⟨s_stI dX1_readPart_5, s_mo_stI _ _⟩, (List.forall_mem_cons.mpr ⟨⟨s_ldI dX1_readPart_7, s_mo_ldI _ _⟩, (List.forall_mem_cons.mpr ⟨⟨s_iconst dX1_readPart_9 (by decide +kernel), s_mo_push _ _⟩, (List.forall_mem_cons.mpr ⟨⟨s_icne dX1_readPart_10 (by decide), s_mo_icne _ _⟩, (List.forall_mem_cons.mpr ⟨⟨s_iconst dX1_readPart_13 (by decide +kernel), s_mo_push _ _⟩, (List.forall_mem_cons.mpr ⟨s_r2 mk_19 dX1_readPart_14, (List.forall_mem_cons.mpr ⟨⟨s_ldAn dX1_readPart_15 rfl, s_mo_ldA _ _⟩, (List.forall_mem_cons.mpr ⟨⟨s_ldIn dX1_readPart_16 rfl, s_mo_ldI _ _⟩, (List.forall_mem_cons.mpr ⟨⟨s_ldI dX1_readPart_17, s_mo_ldI _ _⟩, (List.forall_mem_cons.mpr ⟨⟨s_sV mk_19 mk_83 ok_83 (by decide +kernel) dX1_readPart_19 w_574 w_575 w_576 (Or.inr ⟨5, _, _, rfl, rfl⟩), s_h0 mk_19⟩, (List.forall_mem_cons.mpr ⟨⟨s_stI dX1_readPart_22, s_mo_stI _ _⟩, (List.forall_mem_cons.mpr ⟨⟨s_ldI dX1_readPart_24, s_mo_ldI _ _⟩, (List.forall_mem_cons.mpr ⟨⟨s_iconst dX1_readPart_26 (by decide +kernel), s_mo_push _ _⟩, (List.forall_mem_cons.mpr ⟨⟨s_icne dX1_readPart_27 (by decide), s_mo_icne _ _⟩, (List.forall_mem_cons.mpr ⟨⟨s_iconst dX1_readPart_30 (by decide +kernel), s_mo_push _ _⟩, (List.forall_mem_cons.mpr ⟨s_r2 mk_19 dX1_readPart_31, (List.forall_mem_cons.mpr ⟨⟨s_ldAn dX1_readPart_32 rfl, s_mo_ldA _ _⟩, (List.forall_mem_cons.mpr ⟨⟨s_ldI dX1_readPart_33, s_mo_ldI _ _⟩, (List.forall_mem_cons.mpr ⟨⟨s_ldI dX1_readPart_35, s_mo_ldI _ _⟩, (List.forall_mem_cons.mpr ⟨⟨s_iast dX1_readPart_37, s_mo_iast _⟩, (List.forall_mem_cons.mpr ⟨⟨s_iconst dX1_readPart_38 (by decide +kernel), s_mo_push _ _⟩, (List.forall_mem_cons.mpr ⟨s_r2 mk_19 dX1_readPart_39, (fun _ h => absurd h List.not_mem_nil)⟩)⟩)⟩)⟩)⟩)⟩)⟩)⟩)⟩)⟩)⟩)⟩)⟩)⟩)⟩)⟩)⟩)⟩)⟩)⟩)⟩)⟩)⟩)⟩)⟩)
theorem km_19 : ∀ t ∈ tm_19, s_tok 19 t := (List.forall_mem_cons.mpr ⟨s_lift mk_19 kb_19_0, (fun _ h => absurd h List.not_mem_nil)⟩)
theorem dX1_readCold_0 : decode cX1_readCold 0 = .ok (.aload_n 0, 1) := by decide +kernel
theorem dX1_readCold_1 : decode cX1_readCold 1 = .ok (.aload_n 1, 1) := by decide +kernel
theorem dX1_readCold_2 : decode cX1_readCold 2 = .ok (.invokestatic 89, 3) := by decide +kernel
theorem dX1_readCold_5 : decode cX1_readCold 5 = .ok (.istore_n 2, 1) := by decide +kernel
theorem dX1_readCold_6 : decode cX1_readCold 6 = .ok (.iload_n 2, 1) := by decide +kernel
theorem dX1_readCold_7 : decode cX1_readCold 7 = .ok (.iconst (-1), 1) := by decide +kernel
theorem dX1_readCold_8 : decode cX1_readCold 8 = .ok (.if_icmp .ne 5, 3) := by decide +kernel
theorem dX1_readCold_11 : decode cX1_readCold 11 = .ok (.iconst 0, 1) := by decide +kernel
theorem dX1_readCold_12 : decode cX1_readCold 12 = .ok (.ireturn, 1) := by decide +kernel
theorem dX1_readCold_13 : decode cX1_readCold 13 = .ok (.aload_n 0, 1) := by decide +kernel
theorem dX1_readCold_14 : decode cX1_readCold 14 = .ok (.iconst 0, 1) := by decide +kernel
theorem dX1_readCold_15 : decode cX1_readCold 15 = .ok (.bipush 40, 2) := by decide +kernel
theorem dX1_readCold_17 : decode cX1_readCold 17 = .ok (.invokevirtual 81, 3) := by decide +kernel
theorem dX1_readCold_20 : decode cX1_readCold 20 = .ok (.istore_n 3, 1) := by decide +kernel
theorem dX1_readCold_21 : decode cX1_readCold 21 = .ok (.iload_n 3, 1) := by decide +kernel
theorem dX1_readCold_22 : decode cX1_readCold 22 = .ok (.iconst (-1), 1) := by decide +kernel
theorem dX1_readCold_23 : decode cX1_readCold 23 = .ok (.if_icmp .ne 5, 3) := by decide +kernel
theorem dX1_readCold_26 : decode cX1_readCold 26 = .ok (.iconst 0, 1) := by decide +kernel
theorem dX1_readCold_27 : decode cX1_readCold 27 = .ok (.ireturn, 1) := by decide +kernel
theorem dX1_readCold_28 : decode cX1_readCold 28 = .ok (.aload_n 1, 1) := by decide +kernel
theorem dX1_readCold_29 : decode cX1_readCold 29 = .ok (.getfield 50, 3) := by decide +kernel
theorem dX1_readCold_32 : decode cX1_readCold 32 = .ok (.iload_n 2, 1) := by decide +kernel
theorem dX1_readCold_33 : decode cX1_readCold 33 = .ok (.iload_n 3, 1) := by decide +kernel
theorem dX1_readCold_34 : decode cX1_readCold 34 = .ok (.ineg, 1) := by decide +kernel
theorem dX1_readCold_35 : decode cX1_readCold 35 = .ok (.iastore, 1) := by decide +kernel
theorem dX1_readCold_36 : decode cX1_readCold 36 = .ok (.iconst 1, 1) := by decide +kernel
theorem dX1_readCold_37 : decode cX1_readCold 37 = .ok (.ireturn, 1) := by decide +kernel
set_option maxRecDepth 20000 in
theorem kb_20_0 : ∀ q ∈ tb_20_0, s_atx 20 yX1_readCold cX1_readCold q.1 q.2 := (List.forall_mem_cons.mpr ⟨⟨s_ldAn dX1_readCold_0 rfl, s_mo_ldA _ _⟩, (List.forall_mem_cons.mpr ⟨⟨s_ldAn dX1_readCold_1 rfl, s_mo_ldA _ _⟩, (List.forall_mem_cons.mpr ⟨⟨s_sS mk_20 mk_22 ok_22 (by decide +kernel) dX1_readCold_2 w_587 w_588, s_h0 mk_20⟩, (List.forall_mem_cons.mpr ⟨⟨s_stIn dX1_readCold_5 rfl, s_mo_stI _ _⟩, (List.forall_mem_cons.mpr ⟨⟨s_ldIn dX1_readCold_6 rfl, s_mo_ldI _ _⟩, (List.forall_mem_cons.mpr ⟨⟨s_iconst dX1_readCold_7 (by decide +kernel), s_mo_push _ _⟩, (List.forall_mem_cons.mpr ⟨⟨s_icne dX1_readCold_8 (by decide), s_mo_icne _ _⟩, (List.forall_mem_cons.mpr ⟨⟨s_iconst dX1_readCold_11 (by decide +kernel), s_mo_push _ _⟩, (List.forall_mem_cons.mpr ⟨s_r2 mk_20 dX1_readCold_12, (List.forall_mem_cons.mpr ⟨⟨s_ldAn dX1_readCold_13 rfl, s_mo_ldA _ _⟩, (List.forall_mem_cons.mpr ⟨⟨s_iconst dX1_readCold_14 (by decide +kernel), s_mo_push _ _⟩, (List.forall_mem_cons.mpr ⟨⟨s_bipush dX1_readCold_15 (by decide +kernel), s_mo_push _ _⟩, (List.forall_mem_cons.mpr ⟨⟨s_sV mk_20 mk_83 ok_83 (by decide +kernel) dX1_readCold_17 w_574 w_575 w_576 (Or.inr ⟨5, _, _, rfl, rfl⟩), s_h0 mk_20⟩, (List.forall_mem_cons.mpr ⟨⟨s_stIn dX1_readCold_20 rfl, s_mo_stI _ _⟩, (List.forall_mem_cons.mpr ⟨⟨s_ldIn dX1_readCold_21 rfl, s_mo_ldI _ _⟩, (List.forall_mem_cons.mpr ⟨⟨s_iconst dX1_readCold_22 (by decide +kernel), s_mo_push _ _⟩, (List.forall_mem_cons.mpr ⟨⟨s_icne dX1_readCold_23 (by decide), s_mo_icne _ _⟩, (List.forall_mem_cons.mpr ⟨⟨s_iconst dX1_readCold_26 (by decide +kernel), s_mo_push _ _⟩, (List.forall_mem_cons.mpr ⟨s_r2 mk_20 dX1_readCold_27, (List.forall_mem_cons.mpr ⟨⟨s_ldAn dX1_readCold_28 rfl, s_mo_ldA _ _⟩, (List.forall_mem_cons.mpr ⟨⟨s_getf (ci := 0) (k := 7) rfl (by decide) inX0 w_81 dX1_readCold_29, s_mo_getf _ _ _⟩, (List.forall_mem_cons.mpr ⟨⟨s_ldIn dX1_readCold_32 rfl, s_mo_ldI _ _⟩, (List.forall_mem_cons.mpr ⟨⟨s_ldIn dX1_readCold_33 rfl, s_mo_ldI _ _⟩, (List.forall_mem_cons.mpr ⟨⟨s_ineg dX1_readCold_34, s_mo_un _ _⟩, (List.forall_mem_cons.mpr ⟨⟨s_iast dX1_readCold_35, s_mo_iast _⟩, (List.forall_mem_cons.mpr ⟨⟨s_iconst dX1_readCold_36 (by decide +kernel), s_mo_push _ _⟩, (List.forall_mem_cons.mpr ⟨s_r2 mk_20 dX1_readCold_37, (fun _ h => absurd h List.not_mem_nil)⟩)⟩)⟩)⟩)⟩)⟩)⟩)⟩)⟩)⟩)⟩)⟩)⟩)⟩)⟩)⟩)⟩)⟩)⟩)⟩)⟩)⟩)⟩)⟩)⟩)⟩)⟩)
theorem km_20 : ∀ t ∈ tm_20, s_tok 20 t := (List.forall_mem_cons.mpr ⟨s_lift mk_20 kb_20_0, (fun _ h => absurd h List.not_mem_nil)⟩)
theorem dX1_readCart_0 : decode cX1_readCart 0 = .ok (.aload_n 0, 1) := by decide +kernel
theorem dX1_readCart_1 : decode cX1_readCart 1 = .ok (.iconst 1, 1) := by decide +kernel
theorem dX1_readCart_2 : decode cX1_readCart 2 = .ok (.sipush 200, 3) := by decide +kernel
theorem dX1_readCart_5 : decode cX1_readCart 5 = .ok (.invokevirtual 81, 3) := by decide +kernel
theorem dX1_readCart_8 : decode cX1_readCart 8 = .ok (.istore_n 2, 1) := by decide +kernel
theorem dX1_readCart_9 : decode cX1_readCart 9 = .ok (.iload_n 2, 1) := by decide +kernel
theorem dX1_readCart_10 : decode cX1_readCart 10 = .ok (.iconst (-1), 1) := by decide +kernel
theorem dX1_readCart_11 : decode cX1_readCart 11 = .ok (.if_icmp .ne 5, 3) := by decide +kernel
theorem dX1_readCart_14 : decode cX1_readCart 14 = .ok (.iconst 0, 1) := by decide +kernel
theorem dX1_readCart_15 : decode cX1_readCart 15 = .ok (.ireturn, 1) := by decide +kernel
theorem dX1_readCart_16 : decode cX1_readCart 16 = .ok (.aload_n 0, 1) := by decide +kernel
theorem dX1_readCart_17 : decode cX1_readCart 17 = .ok (.aload_n 1, 1) := by decide +kernel
theorem dX1_readCart_18 : decode cX1_readCart 18 = .ok (.invokestatic 89, 3) := by decide +kernel
theorem dX1_readCart_21 : decode cX1_readCart 21 = .ok (.istore_n 3, 1) := by decide +kernel
theorem dX1_readCart_22 : decode cX1_readCart 22 = .ok (.iload_n 3, 1) := by decide +kernel
theorem dX1_readCart_23 : decode cX1_readCart 23 = .ok (.iconst (-1), 1) := by decide +kernel
theorem dX1_readCart_24 : decode cX1_readCart 24 = .ok (.if_icmp .ne 5, 3) := by decide +kernel
theorem dX1_readCart_27 : decode cX1_readCart 27 = .ok (.iconst 0, 1) := by decide +kernel
theorem dX1_readCart_28 : decode cX1_readCart 28 = .ok (.ireturn, 1) := by decide +kernel
theorem dX1_readCart_29 : decode cX1_readCart 29 = .ok (.aload_n 0, 1) := by decide +kernel
theorem dX1_readCart_30 : decode cX1_readCart 30 = .ok (.iconst 0, 1) := by decide +kernel
theorem dX1_readCart_31 : decode cX1_readCart 31 = .ok (.bipush 23, 2) := by decide +kernel
theorem dX1_readCart_33 : decode cX1_readCart 33 = .ok (.invokevirtual 81, 3) := by decide +kernel
theorem dX1_readCart_36 : decode cX1_readCart 36 = .ok (.istore 4, 2) := by decide +kernel
theorem dX1_readCart_38 : decode cX1_readCart 38 = .ok (.iload 4, 2) := by decide +kernel
theorem dX1_readCart_40 : decode cX1_readCart 40 = .ok (.iconst (-1), 1) := by decide +kernel
theorem dX1_readCart_41 : decode cX1_readCart 41 = .ok (.if_icmp .ne 5, 3) := by decide +kernel
theorem dX1_readCart_44 : decode cX1_readCart 44 = .ok (.iconst 0, 1) := by decide +kernel
theorem dX1_readCart_45 : decode cX1_readCart 45 = .ok (.ireturn, 1) := by decide +kernel
theorem dX1_readCart_46 : decode cX1_readCart 46 = .ok (.aload_n 0, 1) := by decide +kernel
theorem dX1_readCart_47 : decode cX1_readCart 47 = .ok (.ldc 93, 2) := by decide +kernel
theorem dX1_readCart_49 : decode cX1_readCart 49 = .ok (.invokevirtual 30, 3) := by decide +kernel
theorem dX1_readCart_52 : decode cX1_readCart 52 = .ok (.ifCond .ne 8, 3) := by decide +kernel
theorem dX1_readCart_55 : decode cX1_readCart 55 = .ok (.aload_n 0, 1) := by decide +kernel
theorem dX1_readCart_56 : decode cX1_readCart 56 = .ok (.invokevirtual 25, 3) := by decide +kernel
theorem dX1_readCart_59 : decode cX1_readCart 59 = .ok (.ireturn, 1) := by decide +kernel
theorem dX1_readCart_60 : decode cX1_readCart 60 = .ok (.aload_n 0, 1) := by decide +kernel
theorem dX1_readCart_61 : decode cX1_readCart 61 = .ok (.iconst 0, 1) := by decide +kernel
theorem dX1_readCart_62 : decode cX1_readCart 62 = .ok (.bipush 23, 2) := by decide +kernel
theorem dX1_readCart_64 : decode cX1_readCart 64 = .ok (.invokevirtual 81, 3) := by decide +kernel
theorem dX1_readCart_67 : decode cX1_readCart 67 = .ok (.istore 5, 2) := by decide +kernel
theorem dX1_readCart_69 : decode cX1_readCart 69 = .ok (.iload 5, 2) := by decide +kernel
theorem dX1_readCart_71 : decode cX1_readCart 71 = .ok (.iconst (-1), 1) := by decide +kernel
theorem dX1_readCart_72 : decode cX1_readCart 72 = .ok (.if_icmp .ne 5, 3) := by decide +kernel
theorem dX1_readCart_75 : decode cX1_readCart 75 = .ok (.iconst 0, 1) := by decide +kernel
theorem dX1_readCart_76 : decode cX1_readCart 76 = .ok (.ireturn, 1) := by decide +kernel
theorem dX1_readCart_77 : decode cX1_readCart 77 = .ok (.iconst 5, 1) := by decide +kernel
theorem dX1_readCart_78 : decode cX1_readCart 78 = .ok (.aload_n 1, 1) := by decide +kernel
theorem dX1_readCart_79 : decode cX1_readCart 79 = .ok (.getfield 71, 3) := by decide +kernel
theorem dX1_readCart_82 : decode cX1_readCart 82 = .ok (.imul, 1) := by decide +kernel
theorem dX1_readCart_83 : decode cX1_readCart 83 = .ok (.istore 6, 2) := by decide +kernel
theorem dX1_readCart_85 : decode cX1_readCart 85 = .ok (.aload_n 1, 1) := by decide +kernel
theorem dX1_readCart_86 : decode cX1_readCart 86 = .ok (.getfield 95, 3) := by decide +kernel
theorem dX1_readCart_89 : decode cX1_readCart 89 = .ok (.iload 6, 2) := by decide +kernel
theorem dX1_readCart_91 : decode cX1_readCart 91 = .ok (.iload_n 2, 1) := by decide +kernel
theorem dX1_readCart_92 : decode cX1_readCart 92 = .ok (.iastore, 1) := by decide +kernel
theorem dX1_readCart_93 : decode cX1_readCart 93 = .ok (.aload_n 1, 1) := by decide +kernel
theorem dX1_readCart_94 : decode cX1_readCart 94 = .ok (.getfield 95, 3) := by decide +kernel
theorem dX1_readCart_97 : decode cX1_readCart 97 = .ok (.iload 6, 2) := by decide +kernel
theorem dX1_readCart_99 : decode cX1_readCart 99 = .ok (.iconst 1, 1) := by decide +kernel
theorem dX1_readCart_100 : decode cX1_readCart 100 = .ok (.iadd, 1) := by decide +kernel
theorem dX1_readCart_101 : decode cX1_readCart 101 = .ok (.iload_n 3, 1) := by decide +kernel
theorem dX1_readCart_102 : decode cX1_readCart 102 = .ok (.iastore, 1) := by decide +kernel
theorem dX1_readCart_103 : decode cX1_readCart 103 = .ok (.aload_n 1, 1) := by decide +kernel
theorem dX1_readCart_104 : decode cX1_readCart 104 = .ok (.getfield 95, 3) := by decide +kernel
theorem dX1_readCart_107 : decode cX1_readCart 107 = .ok (.iload 6, 2) := by decide +kernel
theorem dX1_readCart_109 : decode cX1_readCart 109 = .ok (.iconst 2, 1) := by decide +kernel
theorem dX1_readCart_110 : decode cX1_readCart 110 = .ok (.iadd, 1) := by decide +kernel
theorem dX1_readCart_111 : decode cX1_readCart 111 = .ok (.iload 4, 2) := by decide +kernel
theorem dX1_readCart_113 : decode cX1_readCart 113 = .ok (.iastore, 1) := by decide +kernel
theorem dX1_readCart_114 : decode cX1_readCart 114 = .ok (.aload_n 1, 1) := by decide +kernel
theorem dX1_readCart_115 : decode cX1_readCart 115 = .ok (.getfield 95, 3) := by decide +kernel
theorem dX1_readCart_118 : decode cX1_readCart 118 = .ok (.iload 6, 2) := by decide +kernel
theorem dX1_readCart_120 : decode cX1_readCart 120 = .ok (.iconst 3, 1) := by decide +kernel
theorem dX1_readCart_121 : decode cX1_readCart 121 = .ok (.iadd, 1) := by decide +kernel
theorem dX1_readCart_122 : decode cX1_readCart 122 = .ok (.iload 5, 2) := by decide +kernel
theorem dX1_readCart_124 : decode cX1_readCart 124 = .ok (.iastore, 1) := by decide +kernel
theorem dX1_readCart_125 : decode cX1_readCart 125 = .ok (.aload_n 1, 1) := by decide +kernel
theorem dX1_readCart_126 : decode cX1_readCart 126 = .ok (.getfield 95, 3) := by decide +kernel
theorem dX1_readCart_129 : decode cX1_readCart 129 = .ok (.iload 6, 2) := by decide +kernel
theorem dX1_readCart_131 : decode cX1_readCart 131 = .ok (.iconst 4, 1) := by decide +kernel
theorem dX1_readCart_132 : decode cX1_readCart 132 = .ok (.iadd, 1) := by decide +kernel
theorem dX1_readCart_133 : decode cX1_readCart 133 = .ok (.aload_n 0, 1) := by decide +kernel
theorem dX1_readCart_134 : decode cX1_readCart 134 = .ok (.ldc 98, 2) := by decide +kernel
theorem dX1_readCart_136 : decode cX1_readCart 136 = .ok (.invokevirtual 30, 3) := by decide +kernel
theorem dX1_readCart_139 : decode cX1_readCart 139 = .ok (.ifCond .eq 7, 3) := by decide +kernel
theorem dX1_readCart_142 : decode cX1_readCart 142 = .ok (.iconst 1, 1) := by decide +kernel
theorem dX1_readCart_143 : decode cX1_readCart 143 = .ok (.goto 4, 3) := by decide +kernel
theorem dX1_readCart_146 : decode cX1_readCart 146 = .ok (.iconst 0, 1) := by decide +kernel
theorem dX1_readCart_147 : decode cX1_readCart 147 = .ok (.iastore, 1) := by decide +kernel
theorem dX1_readCart_148 : decode cX1_readCart 148 = .ok (.aload_n 1, 1) := by decide +kernel
theorem dX1_readCart_149 : decode cX1_readCart 149 = .ok (.dup, 1) := by decide +kernel
theorem dX1_readCart_150 : decode cX1_readCart 150 = .ok (.getfield 71, 3) := by decide +kernel
theorem dX1_readCart_153 : decode cX1_readCart 153 = .ok (.iconst 1, 1) := by decide +kernel
theorem dX1_readCart_154 : decode cX1_readCart 154 = .ok (.iadd, 1) := by decide +kernel
theorem dX1_readCart_155 : decode cX1_readCart 155 = .ok (.putfield 71, 3) := by decide +kernel
theorem dX1_readCart_158 : decode cX1_readCart 158 = .ok (.iconst 1, 1) := by decide +kernel
theorem dX1_readCart_159 : decode cX1_readCart 159 = .ok (.ireturn, 1) := by decide +kernel
set_option maxRecDepth 20000 in
theorem kb_21_0 : ∀ q ∈ tb_21_0, s_atx 21 yX1_readCart cX1_readCart q.1 q.2 := (List.forall_mem_cons.mpr ⟨⟨s_ldAn dX1_readCart_0 rfl, s_mo_ldA _ _⟩, (List.forall_mem_cons.mpr ⟨⟨s_iconst dX1_readCart_1 (by decide +kernel), s_mo_push _ _⟩, (List.forall_mem_cons.mpr ⟨⟨s_sipush dX1_readCart_2 (by decide +kernel), s_mo_push _ _⟩, (List.forall_mem_cons.mpr ⟨⟨s_sV mk_21 mk_83 ok_83 (by decide +kernel) dX1_readCart_5 w_574 w_575 w_576 (Or.inr ⟨5, _, _, rfl, rfl⟩), s_h0 mk_21⟩, (List.forall_mem_cons.mpr ⟨⟨s_stIn dX1_readCart_8 rfl, s_mo_stI _ _⟩, (List.forall_mem_cons.mpr ⟨⟨s_ldIn dX1_readCart_9 rfl, s_mo_ldI _ _⟩, (List.forall_mem_cons.mpr ⟨⟨s_iconst dX1_readCart_10 (by decide +kernel), s_mo_push _ _⟩, (List.forall_mem_cons.mpr ⟨⟨s_icne dX1_readCart_11 (by decide), s_mo_icne _ _⟩, (List.forall_mem_cons.mpr ⟨⟨s_iconst dX1_readCart_14 (by decide +kernel), s_mo_push _ _⟩, (List.forall_mem_cons.mpr ⟨s_r2 mk_21 dX1_readCart_15, (List.forall_mem_cons.mpr ⟨⟨s_ldAn dX1_readCart_16 rfl, s_mo_ldA _ _⟩, (List.forall_mem_cons.mpr ⟨⟨s_ldAn dX1_readCart_17 rfl, s_mo_ldA _ _⟩, (List.forall_mem_cons.mpr ⟨⟨s_sS mk_21 mk_22 ok_22 (by decide +kernel) dX1_readCart_18 w_587 w_588, s_h0 mk_21⟩, (List.forall_mem_cons.mpr ⟨⟨s_stIn dX1_readCart_21 rfl, s_mo_stI _ _⟩, (List.forall_mem_cons.mpr ⟨⟨s_ldIn dX1_readCart_22 rfl, s_mo_ldI _ _⟩, (List.forall_mem_cons.mpr ⟨⟨s_iconst dX1_readCart_23 (by decide +kernel), s_mo_push _ _⟩, (List.forall_mem_cons.mpr ⟨⟨s_icne dX1_readCart_24 (by decide), s_mo_icne _ _⟩, (List.forall_mem_cons.mpr ⟨⟨s_iconst dX1_readCart_27 (by decide +kernel), s_mo_push _ _⟩, (List.forall_mem_cons.mpr ⟨s_r2 mk_21 dX1_readCart_28, (List.forall_mem_cons.mpr ⟨⟨s_ldAn dX1_readCart_29 rfl, s_mo_ldA _ _⟩, (List.forall_mem_cons.mpr ⟨⟨s_iconst dX1_readCart_30 (by decide +kernel), s_mo_push _ _⟩, (List.forall_mem_cons.mpr ⟨⟨s_bipush dX1_readCart_31 (by decide +kernel), s_mo_push _ _⟩, (List.forall_mem_cons.mpr ⟨⟨s_sV mk_21 mk_83 ok_83 (by decide +kernel) dX1_readCart_33 w_574 w_575 w_576 (Or.inr ⟨5, _, _, rfl, rfl⟩), s_h0 mk_21⟩, (List.forall_mem_cons.mpr ⟨⟨s_stI dX1_readCart_36, s_mo_stI _ _⟩, (List.forall_mem_cons.mpr ⟨⟨s_ldI dX1_readCart_38, s_mo_ldI _ _⟩, (List.forall_mem_cons.mpr ⟨⟨s_iconst dX1_readCart_40 (by decide +kernel), s_mo_push _ _⟩, (List.forall_mem_cons.mpr ⟨⟨s_icne dX1_readCart_41 (by decide), s_mo_icne _ _⟩, (List.forall_mem_cons.mpr ⟨⟨s_iconst dX1_readCart_44 (by decide +kernel), s_mo_push _ _⟩, (List.forall_mem_cons.mpr ⟨s_r2 mk_21 dX1_readCart_45, (List.forall_mem_cons.mpr ⟨⟨s_ldAn dX1_readCart_46 rfl, s_mo_ldA _ _⟩, (List.forall_mem_cons.mpr ⟨⟨s_ldcS (tx := "to") (List.mem_of_getElem? (i := 8) rfl) dX1_readCart_47, s_mo_push _ _⟩, (List.forall_mem_cons.mpr ⟨⟨s_sV mk_21 mk_82 ok_82 (by decide +kernel) dX1_readCart_49 w_515 w_516 w_517 (Or.inr ⟨5, _, _, rfl, rfl⟩), s_h0 mk_21⟩, (List.forall_mem_cons.mpr ⟨⟨s_ifne dX1_readCart_52 (by decide), s_mo_ifne _ _⟩, (List.forall_mem_cons.mpr ⟨⟨s_ldAn dX1_readCart_55 rfl, s_mo_ldA _ _⟩, (List.forall_mem_cons.mpr ⟨⟨s_sV mk_21 mk_84 ok_84 (by decide +kernel) dX1_readCart_56 w_603 w_604 w_605 (Or.inr ⟨5, _, _, rfl, rfl⟩), s_h0 mk_21⟩, (List.forall_mem_cons.mpr ⟨s_r2 mk_21 dX1_readCart_59, (List.forall_mem_cons.mpr ⟨⟨s_ldAn dX1_readCart_60 rfl, s_mo_ldA _ _⟩, (List.forall_mem_cons.mpr ⟨⟨s_iconst dX1_readCart_61 (by decide +kernel), s_mo_push _ _⟩, (List.forall_mem_cons.mpr ⟨⟨s_bipush dX1_readCart_62 (by decide +kernel), s_mo_push _ _⟩, (fun _ h => absurd h List.not_mem_nil)⟩)⟩)⟩)⟩)⟩)⟩)⟩)⟩)⟩)⟩)⟩)⟩)⟩)⟩)⟩)⟩)⟩)⟩)⟩)⟩)⟩)⟩)⟩)⟩)⟩)⟩)⟩)⟩)⟩)⟩)⟩)⟩)⟩)⟩)⟩)⟩)⟩)⟩)⟩)
set_option maxRecDepth 20000 in
theorem kb_21_1 : ∀ q ∈ tb_21_1, s_atx 21 yX1_readCart cX1_readCart q.1 q.2 := (List.forall_mem_cons.mpr ⟨⟨s_sV mk_21 mk_83 ok_83 (by decide +kernel) dX1_readCart_64 w_574 w_575 w_576 (Or.inr ⟨5, _, _, rfl, rfl⟩), s_h0 mk_21⟩, (List.forall_mem_cons.mpr ⟨⟨s_stI dX1_readCart_67, s_mo_stI _ _⟩, (List.forall_mem_cons.mpr ⟨⟨s_ldI dX1_readCart_69, s_mo_ldI _ _⟩, (List.forall_mem_cons.mpr ⟨⟨s_iconst dX1_readCart_71 (by decide +kernel), s_mo_push _ _⟩, (List.forall_mem_cons.mpr ⟨⟨s_icne dX1_readCart_72 (by decide), s_mo_icne _ _⟩, (List.forall_mem_cons.mpr ⟨⟨s_iconst dX1_readCart_75 (by decide +kernel), s_mo_push _ _⟩, (List.forall_mem_cons.mpr ⟨s_r2 mk_21 dX1_readCart_76, (List.forall_mem_cons.mpr ⟨⟨s_iconst dX1_readCart_77 (by decide +kernel), s_mo_push _ _⟩, (List.forall_mem_cons.mpr ⟨⟨s_ldAn dX1_readCart_78 rfl, s_mo_ldA _ _⟩, (List.forall_mem_cons.mpr ⟨⟨s_getf (ci := 0) (k := 12) rfl (by decide) inX0 w_105 dX1_readCart_79, s_mo_getf _ _ _⟩, (List.forall_mem_cons.mpr ⟨⟨s_imul dX1_readCart_82, s_mo_bin _ _⟩, (List.forall_mem_cons.mpr ⟨⟨s_stI dX1_readCart_83, s_mo_stI _ _⟩, (List.forall_mem_cons.mpr ⟨⟨s_ldAn dX1_readCart_85 rfl, s_mo_ldA _ _⟩, (List.forall_mem_cons.mpr ⟨⟨s_getf (ci := 0) (k := 13) rfl (by decide) inX0 w_109 dX1_readCart_86, s_mo_getf _ _ _⟩, (List.forall_mem_cons.mpr ⟨⟨s_ldI dX1_readCart_89, s_mo_ldI _ _⟩, (List.forall_mem_cons.mpr ⟨⟨s_ldIn dX1_readCart_91 rfl, s_mo_ldI _ _⟩, (List.forall_mem_cons.mpr ⟨⟨s_iast dX1_readCart_92, s_mo_iast _⟩, (List.forall_mem_cons.mpr ⟨⟨s_ldAn dX1_readCart_93 rfl, s_mo_ldA _ _⟩, (List.forall_mem_cons.mpr ⟨⟨s_getf (ci := 0) (k := 13) rfl (by decide) inX0 w_109 dX1_readCart_94, s_mo_getf _ _ _⟩, (List.forall_mem_cons.mpr ⟨⟨s_ldI dX1_readCart_97, s_mo_ldI _ _⟩, (List.forall_mem_cons.mpr ⟨⟨s_iconst dX1_readCart_99 (by decide +kernel), s_mo_push _ _⟩, (List.forall_mem_cons.mpr ⟨⟨s_iadd dX1_readCart_100, s_mo_bin _ _⟩, (List.forall_mem_cons.mpr ⟨⟨s_ldIn dX1_readCart_101 rfl, s_mo_ldI _ _⟩, (List.forall_mem_cons.mpr ⟨⟨s_iast dX1_readCart_102, s_mo_iast _⟩, (List.forall_mem_cons.mpr ⟨⟨s_ldAn dX1_readCart_103 rfl, s_mo_ldA _ _⟩, (List.forall_mem_cons.mpr ⟨⟨s_getf (ci := 0) (k := 13) rfl (by decide) inX0 w_109 dX1_readCart_104, s_mo_getf _ _ _⟩, (List.forall_mem_cons.mpr ⟨⟨s_ldI dX1_readCart_107, s_mo_ldI _ _⟩, (List.forall_mem_cons.mpr ⟨⟨s_iconst dX1_readCart_109 (by decide +kernel), s_mo_push _ _⟩, (List.forall_mem_cons.mpr ⟨⟨s_iadd dX1_readCart_110, s_mo_bin _ _⟩, (List.forall_mem_cons.mpr ⟨⟨s_ldI dX1_readCart_111, s_mo_ldI _ _⟩, (List.forall_mem_cons.mpr ⟨⟨s_iast dX1_readCart_113, s_mo_iast _⟩, (List.forall_mem_cons.mpr ⟨⟨s_ldAn dX1_readCart_114 rfl, s_mo_ldA _ _⟩, (List.forall_mem_cons.mpr ⟨⟨s_getf (ci := 0) (k := 13) rfl (by decide) inX0 w_109 dX1_readCart_115, s_mo_getf _ _ _⟩, (List.forall_mem_cons.mpr ⟨⟨s_ldI dX1_readCart_118, s_mo_ldI _ _⟩, (List.forall_mem_cons.mpr ⟨⟨s_iconst dX1_readCart_120 (by decide +kernel), s_mo_push _ _⟩, (List.forall_mem_cons.mpr ⟨⟨s_iadd dX1_readCart_121, s_mo_bin _ _⟩, (List.forall_mem_cons.mpr ⟨⟨s_ldI dX1_readCart_122, s_mo_ldI _ _⟩, (List.forall_mem_cons.mpr ⟨⟨s_iast dX1_readCart_124, s_mo_iast _⟩, (List.forall_mem_cons.mpr ⟨⟨s_ldAn dX1_readCart_125 rfl, s_mo_ldA _ _⟩, (List.forall_mem_cons.mpr ⟨⟨s_getf (ci := 0) (k := 13) rfl (by decide) inX0 w_109 dX1_readCart_126, s_mo_getf _ _ _⟩, (fun _ h => absurd h List.not_mem_nil)⟩)⟩)⟩)⟩)⟩)⟩)⟩)⟩)⟩)⟩)⟩)⟩)⟩)⟩)⟩)⟩)⟩)⟩)⟩)⟩)⟩)⟩)⟩)⟩)⟩)⟩)⟩)⟩)⟩)⟩)⟩)⟩)⟩)⟩)⟩)⟩)⟩)⟩)⟩)⟩)
set_option maxRecDepth 20000 in
theorem kb_21_2 : ∀ q ∈ tb_21_2, s_atx 21 yX1_readCart cX1_readCart q.1 q.2 := (List.forall_mem_cons.mpr ⟨⟨s_ldI dX1_readCart_129, s_mo_ldI _ _⟩, (List.forall_mem_cons.mpr ⟨⟨s_iconst dX1_readCart_131 (by decide +kernel), s_mo_push _ _⟩, (List.forall_mem_cons.mpr ⟨⟨s_iadd dX1_readCart_132, s_mo_bin _ _⟩, (List.forall_mem_cons.mpr ⟨⟨s_ldAn dX1_readCart_133 rfl, s_mo_ldA _ _⟩, (List.forall_mem_cons.mpr ⟨⟨s_ldcS (tx := "felt") (List.mem_of_getElem? (i := 9) rfl) dX1_readCart_134, s_mo_push _ _⟩, (List.forall_mem_cons.mpr ⟨⟨s_sV mk_21 mk_82 ok_82 (by decide +kernel) dX1_readCart_136 w_515 w_516 w_517 (Or.inr ⟨5, _, _, rfl, rfl⟩), s_h0 mk_21⟩, (List.forall_mem_cons.mpr ⟨⟨s_ifeq dX1_readCart_139 (by decide), s_mo_ifeq _ _⟩, (List.forall_mem_cons.mpr ⟨⟨s_iconst dX1_readCart_142 (by decide +kernel), s_mo_push _ _⟩, (List.forall_mem_cons.mpr ⟨⟨s_goto dX1_readCart_143 (by decide), s_mo_goto _⟩, (List.forall_mem_cons.mpr ⟨⟨s_iconst dX1_readCart_146 (by decide +kernel), s_mo_push _ _⟩, (List.forall_mem_cons.mpr ⟨⟨s_iast dX1_readCart_147, s_mo_iast _⟩, (List.forall_mem_cons.mpr ⟨⟨s_ldAn dX1_readCart_148 rfl, s_mo_ldA _ _⟩, (List.forall_mem_cons.mpr ⟨⟨s_dup dX1_readCart_149, s_mo_dup _⟩, (List.forall_mem_cons.mpr ⟨⟨s_getf (ci := 0) (k := 12) rfl (by decide) inX0 w_105 dX1_readCart_150, s_mo_getf _ _ _⟩, (List.forall_mem_cons.mpr ⟨⟨s_iconst dX1_readCart_153 (by decide +kernel), s_mo_push _ _⟩, (List.forall_mem_cons.mpr ⟨⟨s_iadd dX1_readCart_154, s_mo_bin _ _⟩, (List.forall_mem_cons.mpr ⟨⟨s_putI (ci := 0) (k := 12) rfl (by decide) inX0 tyX0_ok nmX0 rfl rfl w_105 dX1_readCart_155, s_mo_putI _ _ _⟩, (List.forall_mem_cons.mpr ⟨⟨s_iconst dX1_readCart_158 (by decide +kernel), s_mo_push _ _⟩, (List.forall_mem_cons.mpr ⟨s_r2 mk_21 dX1_readCart_159, (fun _ h => absurd h List.not_mem_nil)⟩)⟩)⟩)⟩)⟩)⟩)⟩)⟩)⟩)⟩)⟩)⟩)⟩)⟩)⟩)⟩)⟩)⟩)⟩)
theorem km_21 : ∀ t ∈ tm_21, s_tok 21 t := (List.forall_mem_cons.mpr ⟨s_lift mk_21 kb_21_0, (List.forall_mem_cons.mpr ⟨s_lift mk_21 kb_21_1, (List.forall_mem_cons.mpr ⟨s_lift mk_21 kb_21_2, (fun _ h => absurd h List.not_mem_nil)⟩)⟩)⟩)
theorem dX1_readPane_0 : decode cX1_readPane 0 = .ok (.aload_n 0, 1) := by decide +kernel
theorem dX1_readPane_1 : decode cX1_readPane 1 = .ok (.iconst 0, 1) := by decide +kernel
theorem dX1_readPane_2 : decode cX1_readPane 2 = .ok (.aload_n 1, 1) := by decide +kernel
theorem dX1_readPane_3 : decode cX1_readPane 3 = .ok (.getfield 100, 3) := by decide +kernel
theorem dX1_readPane_6 : decode cX1_readPane 6 = .ok (.iconst 1, 1) := by decide +kernel
theorem dX1_readPane_7 : decode cX1_readPane 7 = .ok (.isub, 1) := by decide +kernel
theorem dX1_readPane_8 : decode cX1_readPane 8 = .ok (.invokevirtual 81, 3) := by decide +kernel
theorem dX1_readPane_11 : decode cX1_readPane 11 = .ok (.istore_n 2, 1) := by decide +kernel
theorem dX1_readPane_12 : decode cX1_readPane 12 = .ok (.iload_n 2, 1) := by decide +kernel
theorem dX1_readPane_13 : decode cX1_readPane 13 = .ok (.iconst (-1), 1) := by decide +kernel
theorem dX1_readPane_14 : decode cX1_readPane 14 = .ok (.if_icmp .ne 5, 3) := by decide +kernel
theorem dX1_readPane_17 : decode cX1_readPane 17 = .ok (.iconst (-1), 1) := by decide +kernel
theorem dX1_readPane_18 : decode cX1_readPane 18 = .ok (.ireturn, 1) := by decide +kernel
theorem dX1_readPane_19 : decode cX1_readPane 19 = .ok (.aload_n 0, 1) := by decide +kernel
theorem dX1_readPane_20 : decode cX1_readPane 20 = .ok (.iconst 0, 1) := by decide +kernel
theorem dX1_readPane_21 : decode cX1_readPane 21 = .ok (.aload_n 1, 1) := by decide +kernel
theorem dX1_readPane_22 : decode cX1_readPane 22 = .ok (.getfield 103, 3) := by decide +kernel
theorem dX1_readPane_25 : decode cX1_readPane 25 = .ok (.iconst 1, 1) := by decide +kernel
theorem dX1_readPane_26 : decode cX1_readPane 26 = .ok (.isub, 1) := by decide +kernel
theorem dX1_readPane_27 : decode cX1_readPane 27 = .ok (.invokevirtual 81, 3) := by decide +kernel
theorem dX1_readPane_30 : decode cX1_readPane 30 = .ok (.istore_n 3, 1) := by decide +kernel
theorem dX1_readPane_31 : decode cX1_readPane 31 = .ok (.iload_n 3, 1) := by decide +kernel
theorem dX1_readPane_32 : decode cX1_readPane 32 = .ok (.iconst (-1), 1) := by decide +kernel
theorem dX1_readPane_33 : decode cX1_readPane 33 = .ok (.if_icmp .ne 7, 3) := by decide +kernel
theorem dX1_readPane_36 : decode cX1_readPane 36 = .ok (.iconst (-1), 1) := by decide +kernel
theorem dX1_readPane_37 : decode cX1_readPane 37 = .ok (.goto 11, 3) := by decide +kernel
theorem dX1_readPane_40 : decode cX1_readPane 40 = .ok (.aload_n 1, 1) := by decide +kernel
theorem dX1_readPane_41 : decode cX1_readPane 41 = .ok (.getfield 100, 3) := by decide +kernel
theorem dX1_readPane_44 : decode cX1_readPane 44 = .ok (.iload_n 3, 1) := by decide +kernel
theorem dX1_readPane_45 : decode cX1_readPane 45 = .ok (.imul, 1) := by decide +kernel
theorem dX1_readPane_46 : decode cX1_readPane 46 = .ok (.iload_n 2, 1) := by decide +kernel
theorem dX1_readPane_47 : decode cX1_readPane 47 = .ok (.iadd, 1) := by decide +kernel
theorem dX1_readPane_48 : decode cX1_readPane 48 = .ok (.ireturn, 1) := by decide +kernel
set_option maxRecDepth 20000 in
theorem kb_22_0 : ∀ q ∈ tb_22_0, s_atx 22 yX1_readPane cX1_readPane q.1 q.2 := (List.forall_mem_cons.mpr ⟨⟨s_ldAn dX1_readPane_0 rfl, s_mo_ldA _ _⟩, (List.forall_mem_cons.mpr ⟨⟨s_iconst dX1_readPane_1 (by decide +kernel), s_mo_push _ _⟩, (List.forall_mem_cons.mpr ⟨⟨s_ldAn dX1_readPane_2 rfl, s_mo_ldA _ _⟩, (List.forall_mem_cons.mpr ⟨⟨s_getf (ci := 0) (k := 0) rfl (by decide) inX0 w_51 dX1_readPane_3, s_mo_getf _ _ _⟩, (List.forall_mem_cons.mpr ⟨⟨s_iconst dX1_readPane_6 (by decide +kernel), s_mo_push _ _⟩, (List.forall_mem_cons.mpr ⟨⟨s_isub dX1_readPane_7, s_mo_bin _ _⟩, (List.forall_mem_cons.mpr ⟨⟨s_sV mk_22 mk_83 ok_83 (by decide +kernel) dX1_readPane_8 w_574 w_575 w_576 (Or.inr ⟨5, _, _, rfl, rfl⟩), s_h0 mk_22⟩, (List.forall_mem_cons.mpr ⟨⟨s_stIn dX1_readPane_11 rfl, s_mo_stI _ _⟩, (List.forall_mem_cons.mpr ⟨⟨s_ldIn dX1_readPane_12 rfl, s_mo_ldI _ _⟩, (List.forall_mem_cons.mpr ⟨⟨s_iconst dX1_readPane_13 (by decide +kernel), s_mo_push _ _⟩, (List.forall_mem_cons.mpr ⟨⟨s_icne dX1_readPane_14 (by decide), s_mo_icne _ _⟩, (List.forall_mem_cons.mpr ⟨⟨s_iconst dX1_readPane_17 (by decide +kernel), s_mo_push _ _⟩, (List.forall_mem_cons.mpr ⟨s_r1 mk_22 dX1_readPane_18, (List.forall_mem_cons.mpr ⟨⟨s_ldAn dX1_readPane_19 rfl, s_mo_ldA _ _⟩, (List.forall_mem_cons.mpr ⟨⟨s_iconst dX1_readPane_20 (by decide +kernel), s_mo_push _ _⟩, (List.forall_mem_cons.mpr ⟨⟨s_ldAn dX1_readPane_21 rfl, s_mo_ldA _ _⟩, (List.forall_mem_cons.mpr ⟨⟨s_getf (ci := 0) (k := 1) rfl (by decide) inX0 w_54 dX1_readPane_22, s_mo_getf _ _ _⟩, (List.forall_mem_cons.mpr ⟨⟨s_iconst dX1_readPane_25 (by decide +kernel), s_mo_push _ _⟩, (List.forall_mem_cons.mpr ⟨⟨s_isub dX1_readPane_26, s_mo_bin _ _⟩, (List.forall_mem_cons.mpr ⟨⟨s_sV mk_22 mk_83 ok_83 (by decide +kernel) dX1_readPane_27 w_574 w_575 w_576 (Or.inr ⟨5, _, _, rfl, rfl⟩), s_h0 mk_22⟩, (List.forall_mem_cons.mpr ⟨⟨s_stIn dX1_readPane_30 rfl, s_mo_stI _ _⟩, (List.forall_mem_cons.mpr ⟨⟨s_ldIn dX1_readPane_31 rfl, s_mo_ldI _ _⟩, (List.forall_mem_cons.mpr ⟨⟨s_iconst dX1_readPane_32 (by decide +kernel), s_mo_push _ _⟩, (List.forall_mem_cons.mpr ⟨⟨s_icne dX1_readPane_33 (by decide), s_mo_icne _ _⟩, (List.forall_mem_cons.mpr ⟨⟨s_iconst dX1_readPane_36 (by decide +kernel), s_mo_push _ _⟩, (List.forall_mem_cons.mpr ⟨⟨s_goto dX1_readPane_37 (by decide), s_mo_goto _⟩, (List.forall_mem_cons.mpr ⟨⟨s_ldAn dX1_readPane_40 rfl, s_mo_ldA _ _⟩, (List.forall_mem_cons.mpr ⟨⟨s_getf (ci := 0) (k := 0) rfl (by decide) inX0 w_51 dX1_readPane_41, s_mo_getf _ _ _⟩, (List.forall_mem_cons.mpr ⟨⟨s_ldIn dX1_readPane_44 rfl, s_mo_ldI _ _⟩, (List.forall_mem_cons.mpr ⟨⟨s_imul dX1_readPane_45, s_mo_bin _ _⟩, (List.forall_mem_cons.mpr ⟨⟨s_ldIn dX1_readPane_46 rfl, s_mo_ldI _ _⟩, (List.forall_mem_cons.mpr ⟨⟨s_iadd dX1_readPane_47, s_mo_bin _ _⟩, (List.forall_mem_cons.mpr ⟨s_r1 mk_22 dX1_readPane_48, (fun _ h => absurd h List.not_mem_nil)⟩)⟩)⟩)⟩)⟩)⟩)⟩)⟩)⟩)⟩)⟩)⟩)⟩)⟩)⟩)⟩)⟩)⟩)⟩)⟩)⟩)⟩)⟩)⟩)⟩)⟩)⟩)⟩)⟩)⟩)⟩)⟩)⟩)
theorem km_22 : ∀ t ∈ tm_22, s_tok 22 t := (List.forall_mem_cons.mpr ⟨s_lift mk_22 kb_22_0, (fun _ h => absurd h List.not_mem_nil)⟩)
