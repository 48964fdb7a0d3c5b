/-! The tables are backed, piece by piece: written by wip/whole/gen_prog.py -/
theorem dX12_parade_0 : decode cX12_parade 0 = .ok (.aload_n 0, 1) := by decide +kernel
theorem dX12_parade_1 : decode cX12_parade 1 = .ok (.iconst 0, 1) := by decide +kernel
theorem dX12_parade_2 : decode cX12_parade 2 = .ok (.putfield 3, 3) := by decide +kernel
theorem dX12_parade_5 : decode cX12_parade 5 = .ok (.aload_n 0, 1) := by decide +kernel
theorem dX12_parade_6 : decode cX12_parade 6 = .ok (.aload_n 0, 1) := by decide +kernel
theorem dX12_parade_7 : decode cX12_parade 7 = .ok (.iload_n 1, 1) := by decide +kernel
theorem dX12_parade_8 : decode cX12_parade 8 = .ok (.invokevirtual 264, 3) := by decide +kernel
theorem dX12_parade_11 : decode cX12_parade 11 = .ok (.ifCond .ne 18, 3) := by decide +kernel
theorem dX12_parade_14 : decode cX12_parade 14 = .ok (.aload_n 0, 1) := by decide +kernel
theorem dX12_parade_15 : decode cX12_parade 15 = .ok (.iload_n 2, 1) := by decide +kernel
theorem dX12_parade_16 : decode cX12_parade 16 = .ok (.invokevirtual 264, 3) := by decide +kernel
theorem dX12_parade_19 : decode cX12_parade 19 = .ok (.ifCond .ne 10, 3) := by decide +kernel
theorem dX12_parade_22 : decode cX12_parade 22 = .ok (.iload_n 3, 1) := by decide +kernel
theorem dX12_parade_23 : decode cX12_parade 23 = .ok (.invokestatic 270, 3) := by decide +kernel
theorem dX12_parade_26 : decode cX12_parade 26 = .ok (.ifCond .eq 7, 3) := by decide +kernel
theorem dX12_parade_29 : decode cX12_parade 29 = .ok (.iconst 1, 1) := by decide +kernel
theorem dX12_parade_30 : decode cX12_parade 30 = .ok (.goto 4, 3) := by decide +kernel
theorem dX12_parade_33 : decode cX12_parade 33 = .ok (.iconst 0, 1) := by decide +kernel
theorem dX12_parade_34 : decode cX12_parade 34 = .ok (.iconst 1, 1) := by decide +kernel
theorem dX12_parade_35 : decode cX12_parade 35 = .ok (.invokevirtual 234, 3) := by decide +kernel
theorem dX12_parade_38 : decode cX12_parade 38 = .ok (.ifCond .ne 34, 3) := by decide +kernel
theorem dX12_parade_41 : decode cX12_parade 41 = .ok (.aload_n 0, 1) := by decide +kernel
theorem dX12_parade_42 : decode cX12_parade 42 = .ok (.iload 4, 2) := by decide +kernel
theorem dX12_parade_44 : decode cX12_parade 44 = .ok (.iconst 0, 1) := by decide +kernel
theorem dX12_parade_45 : decode cX12_parade 45 = .ok (.sipush 999, 3) := by decide +kernel
theorem dX12_parade_48 : decode cX12_parade 48 = .ok (.invokestatic 84, 3) := by decide +kernel
theorem dX12_parade_51 : decode cX12_parade 51 = .ok (.ifCond .eq 9, 3) := by decide +kernel
theorem dX12_parade_54 : decode cX12_parade 54 = .ok (.iload 5, 2) := by decide +kernel
theorem dX12_parade_56 : decode cX12_parade 56 = .ok (.iconst (-1), 1) := by decide +kernel
theorem dX12_parade_57 : decode cX12_parade 57 = .ok (.if_icmp .ge 7, 3) := by decide +kernel
theorem dX12_parade_60 : decode cX12_parade 60 = .ok (.iconst 1, 1) := by decide +kernel
theorem dX12_parade_61 : decode cX12_parade 61 = .ok (.goto 4, 3) := by decide +kernel
theorem dX12_parade_64 : decode cX12_parade 64 = .ok (.iconst 0, 1) := by decide +kernel
theorem dX12_parade_65 : decode cX12_parade 65 = .ok (.iconst 2, 1) := by decide +kernel
theorem dX12_parade_66 : decode cX12_parade 66 = .ok (.invokevirtual 234, 3) := by decide +kernel
theorem dX12_parade_69 : decode cX12_parade 69 = .ok (.ifCond .eq 5, 3) := by decide +kernel
theorem dX12_parade_72 : decode cX12_parade 72 = .ok (.iconst 0, 1) := by decide +kernel
theorem dX12_parade_73 : decode cX12_parade 73 = .ok (.ireturn, 1) := by decide +kernel
theorem dX12_parade_74 : decode cX12_parade 74 = .ok (.aload_n 0, 1) := by decide +kernel
theorem dX12_parade_75 : decode cX12_parade 75 = .ok (.iload_n 1, 1) := by decide +kernel
theorem dX12_parade_76 : decode cX12_parade 76 = .ok (.iload_n 2, 1) := by decide +kernel
theorem dX12_parade_77 : decode cX12_parade 77 = .ok (.iload_n 3, 1) := by decide +kernel
theorem dX12_parade_78 : decode cX12_parade 78 = .ok (.iload 4, 2) := by decide +kernel
theorem dX12_parade_80 : decode cX12_parade 80 = .ok (.invokevirtual 340, 3) := by decide +kernel
theorem dX12_parade_83 : decode cX12_parade 83 = .ok (.istore 6, 2) := by decide +kernel
theorem dX12_parade_85 : decode cX12_parade 85 = .ok (.iload 5, 2) := by decide +kernel
theorem dX12_parade_87 : decode cX12_parade 87 = .ok (.iconst (-1), 1) := by decide +kernel
theorem dX12_parade_88 : decode cX12_parade 88 = .ok (.if_icmp .eq 15, 3) := by decide +kernel
theorem dX12_parade_91 : decode cX12_parade 91 = .ok (.iload 6, 2) := by decide +kernel
theorem dX12_parade_93 : decode cX12_parade 93 = .ok (.ifCond .lt 10, 3) := by decide +kernel
theorem dX12_parade_96 : decode cX12_parade 96 = .ok (.iload 5, 2) := by decide +kernel
theorem dX12_parade_98 : decode cX12_parade 98 = .ok (.iload 6, 2) := by decide +kernel
theorem dX12_parade_100 : decode cX12_parade 100 = .ok (.if_icmp .le 16, 3) := by decide +kernel
theorem dX12_parade_103 : decode cX12_parade 103 = .ok (.iload 5, 2) := by decide +kernel
theorem dX12_parade_105 : decode cX12_parade 105 = .ok (.iconst (-1), 1) := by decide +kernel
theorem dX12_parade_106 : decode cX12_parade 106 = .ok (.if_icmp .ne 8, 3) := by decide +kernel
theorem dX12_parade_109 : decode cX12_parade 109 = .ok (.iload 6, 2) := by decide +kernel
theorem dX12_parade_111 : decode cX12_parade 111 = .ok (.goto 4, 3) := by decide +kernel
theorem dX12_parade_114 : decode cX12_parade 114 = .ok (.iconst (-1), 1) := by decide +kernel
theorem dX12_parade_115 : decode cX12_parade 115 = .ok (.ireturn, 1) := by decide +kernel
theorem dX12_parade_116 : decode cX12_parade 116 = .ok (.aload_n 0, 1) := by decide +kernel
theorem dX12_parade_117 : decode cX12_parade 117 = .ok (.getfield 51, 3) := by decide +kernel
theorem dX12_parade_120 : decode cX12_parade 120 = .ok (.iload 6, 2) := by decide +kernel
theorem dX12_parade_122 : decode cX12_parade 122 = .ok (.iconst 1, 1) := by decide +kernel
theorem dX12_parade_123 : decode cX12_parade 123 = .ok (.iload_n 2, 1) := by decide +kernel
theorem dX12_parade_124 : decode cX12_parade 124 = .ok (.ishl, 1) := by decide +kernel
theorem dX12_parade_125 : decode cX12_parade 125 = .ok (.iastore, 1) := by decide +kernel
theorem dX12_parade_126 : decode cX12_parade 126 = .ok (.iload 6, 2) := by decide +kernel
theorem dX12_parade_128 : decode cX12_parade 128 = .ok (.iconst 1, 1) := by decide +kernel
theorem dX12_parade_129 : decode cX12_parade 129 = .ok (.isub, 1) := by decide +kernel
theorem dX12_parade_130 : decode cX12_parade 130 = .ok (.istore 7, 2) := by decide +kernel
theorem dX12_parade_132 : decode cX12_parade 132 = .ok (.iload 7, 2) := by decide +kernel
theorem dX12_parade_134 : decode cX12_parade 134 = .ok (.ifCond .lt 40, 3) := by decide +kernel
theorem dX12_parade_137 : decode cX12_parade 137 = .ok (.aload_n 0, 1) := by decide +kernel
theorem dX12_parade_138 : decode cX12_parade 138 = .ok (.getfield 51, 3) := by decide +kernel
theorem dX12_parade_141 : decode cX12_parade 141 = .ok (.iload 7, 2) := by decide +kernel
theorem dX12_parade_143 : decode cX12_parade 143 = .ok (.aload_n 0, 1) := by decide +kernel
theorem dX12_parade_144 : decode cX12_parade 144 = .ok (.aload_n 0, 1) := by decide +kernel
theorem dX12_parade_145 : decode cX12_parade 145 = .ok (.getfield 51, 3) := by decide +kernel
theorem dX12_parade_148 : decode cX12_parade 148 = .ok (.iload 7, 2) := by decide +kernel
theorem dX12_parade_150 : decode cX12_parade 150 = .ok (.iconst 1, 1) := by decide +kernel
theorem dX12_parade_151 : decode cX12_parade 151 = .ok (.iadd, 1) := by decide +kernel
theorem dX12_parade_152 : decode cX12_parade 152 = .ok (.iaload, 1) := by decide +kernel
theorem dX12_parade_153 : decode cX12_parade 153 = .ok (.invokevirtual 337, 3) := by decide +kernel
theorem dX12_parade_156 : decode cX12_parade 156 = .ok (.aload_n 0, 1) := by decide +kernel
theorem dX12_parade_157 : decode cX12_parade 157 = .ok (.iload_n 3, 1) := by decide +kernel
theorem dX12_parade_158 : decode cX12_parade 158 = .ok (.iload 7, 2) := by decide +kernel
theorem dX12_parade_160 : decode cX12_parade 160 = .ok (.iadd, 1) := by decide +kernel
theorem dX12_parade_161 : decode cX12_parade 161 = .ok (.iload 4, 2) := by decide +kernel
theorem dX12_parade_163 : decode cX12_parade 163 = .ok (.invokevirtual 334, 3) := by decide +kernel
theorem dX12_parade_166 : decode cX12_parade 166 = .ok (.iand, 1) := by decide +kernel
theorem dX12_parade_167 : decode cX12_parade 167 = .ok (.iastore, 1) := by decide +kernel
theorem dX12_parade_168 : decode cX12_parade 168 = .ok (.iinc 7 (-1), 3) := by decide +kernel
theorem dX12_parade_171 : decode cX12_parade 171 = .ok (.goto (-39), 3) := by decide +kernel
theorem dX12_parade_174 : decode cX12_parade 174 = .ok (.iload_n 1, 1) := by decide +kernel
theorem dX12_parade_175 : decode cX12_parade 175 = .ok (.istore 7, 2) := by decide +kernel
theorem dX12_parade_177 : decode cX12_parade 177 = .ok (.iconst 1, 1) := by decide +kernel
theorem dX12_parade_178 : decode cX12_parade 178 = .ok (.istore 8, 2) := by decide +kernel
theorem dX12_parade_180 : decode cX12_parade 180 = .ok (.iload 8, 2) := by decide +kernel
theorem dX12_parade_182 : decode cX12_parade 182 = .ok (.iload 5, 2) := by decide +kernel
theorem dX12_parade_184 : decode cX12_parade 184 = .ok (.if_icmp .gt 102, 3) := by decide +kernel
theorem dX12_parade_187 : decode cX12_parade 187 = .ok (.aload_n 0, 1) := by decide +kernel
theorem dX12_parade_188 : decode cX12_parade 188 = .ok (.getfield 51, 3) := by decide +kernel
theorem dX12_parade_191 : decode cX12_parade 191 = .ok (.iload 8, 2) := by decide +kernel
theorem dX12_parade_193 : decode cX12_parade 193 = .ok (.iaload, 1) := by decide +kernel
theorem dX12_parade_194 : decode cX12_parade 194 = .ok (.iload 7, 2) := by decide +kernel
theorem dX12_parade_196 : decode cX12_parade 196 = .ok (.invokestatic 304, 3) := by decide +kernel
theorem dX12_parade_199 : decode cX12_parade 199 = .ok (.ifCond .eq 8, 3) := by decide +kernel
theorem dX12_parade_202 : decode cX12_parade 202 = .ok (.iload 7, 2) := by decide +kernel
theorem dX12_parade_204 : decode cX12_parade 204 = .ok (.goto 4, 3) := by decide +kernel
theorem dX12_parade_207 : decode cX12_parade 207 = .ok (.iconst (-1), 1) := by decide +kernel
theorem dX12_parade_208 : decode cX12_parade 208 = .ok (.istore 9, 2) := by decide +kernel
theorem dX12_parade_210 : decode cX12_parade 210 = .ok (.iconst 0, 1) := by decide +kernel
theorem dX12_parade_211 : decode cX12_parade 211 = .ok (.istore 10, 2) := by decide +kernel
theorem dX12_parade_213 : decode cX12_parade 213 = .ok (.iload 10, 2) := by decide +kernel
theorem dX12_parade_215 : decode cX12_parade 215 = .ok (.iconst 4, 1) := by decide +kernel
theorem dX12_parade_216 : decode cX12_parade 216 = .ok (.if_icmp .ge 60, 3) := by decide +kernel
theorem dX12_parade_219 : decode cX12_parade 219 = .ok (.iload 9, 2) := by decide +kernel
theorem dX12_parade_221 : decode cX12_parade 221 = .ok (.ifCond .ge 55, 3) := by decide +kernel
theorem dX12_parade_224 : decode cX12_parade 224 = .ok (.aload_n 0, 1) := by decide +kernel
theorem dX12_parade_225 : decode cX12_parade 225 = .ok (.iload 7, 2) := by decide +kernel
theorem dX12_parade_227 : decode cX12_parade 227 = .ok (.iload 10, 2) := by decide +kernel
theorem dX12_parade_229 : decode cX12_parade 229 = .ok (.invokevirtual 313, 3) := by decide +kernel
theorem dX12_parade_232 : decode cX12_parade 232 = .ok (.ifCond .lt 35, 3) := by decide +kernel
theorem dX12_parade_235 : decode cX12_parade 235 = .ok (.aload_n 0, 1) := by decide +kernel
theorem dX12_parade_236 : decode cX12_parade 236 = .ok (.getfield 51, 3) := by decide +kernel
theorem dX12_parade_239 : decode cX12_parade 239 = .ok (.iload 8, 2) := by decide +kernel
theorem dX12_parade_241 : decode cX12_parade 241 = .ok (.iaload, 1) := by decide +kernel
theorem dX12_parade_242 : decode cX12_parade 242 = .ok (.aload_n 0, 1) := by decide +kernel
theorem dX12_parade_243 : decode cX12_parade 243 = .ok (.iload 7, 2) := by decide +kernel
theorem dX12_parade_245 : decode cX12_parade 245 = .ok (.iload 10, 2) := by decide +kernel
theorem dX12_parade_247 : decode cX12_parade 247 = .ok (.invokevirtual 313, 3) := by decide +kernel
theorem dX12_parade_250 : decode cX12_parade 250 = .ok (.invokestatic 304, 3) := by decide +kernel
theorem dX12_parade_253 : decode cX12_parade 253 = .ok (.ifCond .eq 14, 3) := by decide +kernel
theorem dX12_parade_256 : decode cX12_parade 256 = .ok (.aload_n 0, 1) := by decide +kernel
theorem dX12_parade_257 : decode cX12_parade 257 = .ok (.iload 7, 2) := by decide +kernel
theorem dX12_parade_259 : decode cX12_parade 259 = .ok (.iload 10, 2) := by decide +kernel
theorem dX12_parade_261 : decode cX12_parade 261 = .ok (.invokevirtual 313, 3) := by decide +kernel
theorem dX12_parade_264 : decode cX12_parade 264 = .ok (.goto 4, 3) := by decide +kernel
theorem dX12_parade_267 : decode cX12_parade 267 = .ok (.iconst (-1), 1) := by decide +kernel
theorem dX12_parade_268 : decode cX12_parade 268 = .ok (.istore 9, 2) := by decide +kernel
theorem dX12_parade_270 : decode cX12_parade 270 = .ok (.iinc 10 1, 3) := by decide +kernel
theorem dX12_parade_273 : decode cX12_parade 273 = .ok (.goto (-60), 3) := by decide +kernel
theorem dX12_parade_276 : decode cX12_parade 276 = .ok (.iload 9, 2) := by decide +kernel
theorem dX12_parade_278 : decode cX12_parade 278 = .ok (.istore 7, 2) := by decide +kernel
theorem dX12_parade_280 : decode cX12_parade 280 = .ok (.iinc 8 1, 3) := by decide +kernel
theorem dX12_parade_283 : decode cX12_parade 283 = .ok (.goto (-103), 3) := by decide +kernel
theorem dX12_parade_286 : decode cX12_parade 286 = .ok (.iload 7, 2) := by decide +kernel
theorem dX12_parade_288 : decode cX12_parade 288 = .ok (.ireturn, 1) := by decide +kernel
set_option maxRecDepth 20000 in
theorem kb_233_0 : ∀ q ∈ tb_233_0, s_atx 233 yX12_parade cX12_parade q.1 q.2 := (List.forall_mem_cons.mpr ⟨⟨s_ldAn dX12_parade_0 rfl, s_mo_ldA _ _⟩, (List.forall_mem_cons.mpr ⟨⟨s_iconst dX12_parade_1 (by decide +kernel), s_mo_push _ _⟩, (List.forall_mem_cons.mpr ⟨⟨s_putI (ci := 8) (k := 0) rfl (by decide) inX12 tyX12_ok nmX12 rfl rfl w_1221 dX12_parade_2, s_mo_putI _ _ _⟩, (List.forall_mem_cons.mpr ⟨⟨s_ldAn dX12_parade_5 rfl, s_mo_ldA _ _⟩, (List.forall_mem_cons.mpr ⟨⟨s_ldAn dX12_parade_6 rfl, s_mo_ldA _ _⟩, (List.forall_mem_cons.mpr ⟨⟨s_ldIn dX12_parade_7 rfl, s_mo_ldI _ _⟩, (List.forall_mem_cons.mpr ⟨⟨s_sV mk_233 mk_160 ok_160 (by decide +kernel) dX12_parade_8 w_1450 w_1452 wp_48 (Or.inr ⟨8, _, _, rfl, rfl⟩), s_h0 mk_233⟩, (List.forall_mem_cons.mpr ⟨⟨s_ifne dX12_parade_11 (by decide), s_mo_ifne _ _⟩, (List.forall_mem_cons.mpr ⟨⟨s_ldAn dX12_parade_14 rfl, s_mo_ldA _ _⟩, (List.forall_mem_cons.mpr ⟨⟨s_ldIn dX12_parade_15 rfl, s_mo_ldI _ _⟩, (List.forall_mem_cons.mpr ⟨⟨s_sV mk_233 mk_160 ok_160 (by decide +kernel) dX12_parade_16 w_1450 w_1452 wp_48 (Or.inr ⟨8, _, _, rfl, rfl⟩), s_h0 mk_233⟩, (List.forall_mem_cons.mpr ⟨⟨s_ifne dX12_parade_19 (by decide), s_mo_ifne _ _⟩, (List.forall_mem_cons.mpr ⟨⟨s_ldIn dX12_parade_22 rfl, s_mo_ldI _ _⟩, (List.forall_mem_cons.mpr ⟨⟨s_sS mk_233 mk_161 ok_161 (by decide +kernel) dX12_parade_23 w_1503 w_1504, s_h0 mk_233⟩, (List.forall_mem_cons.mpr ⟨⟨s_ifeq dX12_parade_26 (by decide), s_mo_ifeq _ _⟩, (List.forall_mem_cons.mpr ⟨⟨s_iconst dX12_parade_29 (by decide +kernel), s_mo_push _ _⟩, (List.forall_mem_cons.mpr ⟨⟨s_goto dX12_parade_30 (by decide), s_mo_goto _⟩, (List.forall_mem_cons.mpr ⟨⟨s_iconst dX12_parade_33 (by decide +kernel), s_mo_push _ _⟩, (List.forall_mem_cons.mpr ⟨⟨s_iconst dX12_parade_34 (by decide +kernel), s_mo_push _ _⟩, (List.forall_mem_cons.mpr ⟨⟨s_sV mk_233 mk_149 ok_149 (by decide +kernel) dX12_parade_35 w_1438 w_1440 wp_47 (Or.inr ⟨8, _, _, rfl, rfl⟩), s_h0 mk_233⟩, (List.forall_mem_cons.mpr ⟨⟨s_ifne dX12_parade_38 (by decide), s_mo_ifne _ _⟩, (List.forall_mem_cons.mpr ⟨⟨s_ldAn dX12_parade_41 rfl, s_mo_ldA _ _⟩, (List.forall_mem_cons.mpr ⟨⟨s_ldI dX12_parade_42, s_mo_ldI _ _⟩, (List.forall_mem_cons.mpr ⟨⟨s_iconst dX12_parade_44 (by decide +kernel), s_mo_push _ _⟩, (List.forall_mem_cons.mpr ⟨⟨s_sipush dX12_parade_45 (by decide +kernel), s_mo_push _ _⟩, (List.forall_mem_cons.mpr ⟨⟨s_sS mk_233 mk_150 ok_150 (by decide +kernel) dX12_parade_48 w_1458 w_1459, s_h0 mk_233⟩, (List.forall_mem_cons.mpr ⟨⟨s_ifeq dX12_parade_51 (by decide), s_mo_ifeq _ _⟩, (List.forall_mem_cons.mpr ⟨⟨s_ldI dX12_parade_54, s_mo_ldI _ _⟩, (List.forall_mem_cons.mpr ⟨⟨s_iconst dX12_parade_56 (by decide +kernel), s_mo_push _ _⟩, (List.forall_mem_cons.mpr ⟨⟨s_icge dX12_parade_57 (by decide), s_mo_icge _ _⟩, (List.forall_mem_cons.mpr ⟨⟨s_iconst dX12_parade_60 (by decide +kernel), s_mo_push _ _⟩, (List.forall_mem_cons.mpr ⟨⟨s_goto dX12_parade_61 (by decide), s_mo_goto _⟩, (fun _ h => absurd h List.not_mem_nil)⟩)⟩)⟩)⟩)⟩)⟩)⟩)⟩)⟩)⟩)⟩)⟩)⟩)⟩)⟩)⟩)⟩)⟩)⟩)⟩)⟩)⟩)⟩)⟩)⟩)⟩)⟩)⟩)⟩)⟩)⟩)⟩)
set_option maxRecDepth 20000 in
theorem kb_233_1 : ∀ q ∈ tb_233_1, s_atx 233 yX12_parade cX12_parade q.1 q.2 := (List.forall_mem_cons.mpr ⟨⟨s_iconst dX12_parade_64 (by decide +kernel), s_mo_push _ _⟩, (List.forall_mem_cons.mpr ⟨⟨s_iconst dX12_parade_65 (by decide +kernel), s_mo_push _ _⟩, (List.forall_mem_cons.mpr ⟨⟨s_sV mk_233 mk_149 ok_149 (by decide +kernel) dX12_parade_66 w_1438 w_1440 wp_47 (Or.inr ⟨8, _, _, rfl, rfl⟩), s_h0 mk_233⟩, (List.forall_mem_cons.mpr ⟨⟨s_ifeq dX12_parade_69 (by decide), s_mo_ifeq _ _⟩, (List.forall_mem_cons.mpr ⟨⟨s_iconst dX12_parade_72 (by decide +kernel), s_mo_push _ _⟩, (List.forall_mem_cons.mpr ⟨s_r1 mk_233 dX12_parade_73, (List.forall_mem_cons.mpr ⟨⟨s_ldAn dX12_parade_74 rfl, s_mo_ldA _ _⟩, (List.forall_mem_cons.mpr ⟨⟨s_ldIn dX12_parade_75 rfl, s_mo_ldI _ _⟩, (List.forall_mem_cons.mpr ⟨⟨s_ldIn dX12_parade_76 rfl, s_mo_ldI _ _⟩, (List.forall_mem_cons.mpr ⟨⟨s_ldIn dX12_parade_77 rfl, s_mo_ldI _ _⟩, (List.forall_mem_cons.mpr ⟨⟨s_ldI dX12_parade_78, s_mo_ldI _ _⟩, (List.forall_mem_cons.mpr ⟨⟨s_sV mk_233 mk_232 ok_232 (by decide +kernel) dX12_parade_80 w_1641 w_1643 wp_71 (Or.inr ⟨8, _, _, rfl, rfl⟩), s_h0 mk_233⟩, (List.forall_mem_cons.mpr ⟨⟨s_stI dX12_parade_83, s_mo_stI _ _⟩, (List.forall_mem_cons.mpr ⟨⟨s_ldI dX12_parade_85, s_mo_ldI _ _⟩, (List.forall_mem_cons.mpr ⟨⟨s_iconst dX12_parade_87 (by decide +kernel), s_mo_push _ _⟩, (List.forall_mem_cons.mpr ⟨⟨s_iceq dX12_parade_88 (by decide), s_mo_iceq _ _⟩, (List.forall_mem_cons.mpr ⟨⟨s_ldI dX12_parade_91, s_mo_ldI _ _⟩, (List.forall_mem_cons.mpr ⟨⟨s_iflt dX12_parade_93 (by decide), s_mo_iflt _ _⟩, (List.forall_mem_cons.mpr ⟨⟨s_ldI dX12_parade_96, s_mo_ldI _ _⟩, (List.forall_mem_cons.mpr ⟨⟨s_ldI dX12_parade_98, s_mo_ldI _ _⟩, (List.forall_mem_cons.mpr ⟨⟨s_icle dX12_parade_100 (by decide), s_mo_icle _ _⟩, (List.forall_mem_cons.mpr ⟨⟨s_ldI dX12_parade_103, s_mo_ldI _ _⟩, (List.forall_mem_cons.mpr ⟨⟨s_iconst dX12_parade_105 (by decide +kernel), s_mo_push _ _⟩, (List.forall_mem_cons.mpr ⟨⟨s_icne dX12_parade_106 (by decide), s_mo_icne _ _⟩, (List.forall_mem_cons.mpr ⟨⟨s_ldI dX12_parade_109, s_mo_ldI _ _⟩, (List.forall_mem_cons.mpr ⟨⟨s_goto dX12_parade_111 (by decide), s_mo_goto _⟩, (List.forall_mem_cons.mpr ⟨⟨s_iconst dX12_parade_114 (by decide +kernel), s_mo_push _ _⟩, (List.forall_mem_cons.mpr ⟨s_r1 mk_233 dX12_parade_115, (List.forall_mem_cons.mpr ⟨⟨s_ldAn dX12_parade_116 rfl, s_mo_ldA _ _⟩, (List.forall_mem_cons.mpr ⟨⟨s_getf (ci := 8) (k := 22) rfl (by decide) inX12 w_1243 dX12_parade_117, s_mo_getf _ _ _⟩, (List.forall_mem_cons.mpr ⟨⟨s_ldI dX12_parade_120, s_mo_ldI _ _⟩, (List.forall_mem_cons.mpr ⟨⟨s_iconst dX12_parade_122 (by decide +kernel), s_mo_push _ _⟩, (List.forall_mem_cons.mpr ⟨⟨s_ldIn dX12_parade_123 rfl, s_mo_ldI _ _⟩, (List.forall_mem_cons.mpr ⟨⟨s_ishl dX12_parade_124, s_mo_bin _ _⟩, (List.forall_mem_cons.mpr ⟨⟨s_iast dX12_parade_125, s_mo_iast _⟩, (List.forall_mem_cons.mpr ⟨⟨s_ldI dX12_parade_126, s_mo_ldI _ _⟩, (fun _ h => absurd h List.not_mem_nil)⟩)⟩)⟩)⟩)⟩)⟩)⟩)⟩)⟩)⟩)⟩)⟩)⟩)⟩)⟩)⟩)⟩)⟩)⟩)⟩)⟩)⟩)⟩)⟩)⟩)⟩)⟩)⟩)⟩)⟩)⟩)⟩)⟩)⟩)⟩)⟩)
set_option maxRecDepth 20000 in
theorem kb_233_2 : ∀ q ∈ tb_233_2, s_atx 233 yX12_parade cX12_parade q.1 q.2 := (List.forall_mem_cons.mpr ⟨⟨s_iconst dX12_parade_128 (by decide +kernel), s_mo_push _ _⟩, (List.forall_mem_cons.mpr ⟨⟨s_isub dX12_parade_129, s_mo_bin _ _⟩, (List.forall_mem_cons.mpr ⟨⟨s_stI dX12_parade_130, s_mo_stI _ _⟩, (List.forall_mem_cons.mpr ⟨⟨s_ldI dX12_parade_132, s_mo_ldI _ _⟩, (List.forall_mem_cons.mpr ⟨⟨s_iflt dX12_parade_134 (by decide), s_mo_iflt _ _⟩, (List.forall_mem_cons.mpr ⟨⟨s_ldAn dX12_parade_137 rfl, s_mo_ldA _ _⟩, (List.forall_mem_cons.mpr ⟨⟨s_getf (ci := 8) (k := 22) rfl (by decide) inX12 w_1243 dX12_parade_138, s_mo_getf _ _ _⟩, (List.forall_mem_cons.mpr ⟨⟨s_ldI dX12_parade_141, s_mo_ldI _ _⟩, (List.forall_mem_cons.mpr ⟨⟨s_ldAn dX12_parade_143 rfl, s_mo_ldA _ _⟩, (List.forall_mem_cons.mpr ⟨⟨s_ldAn dX12_parade_144 rfl, s_mo_ldA _ _⟩, (List.forall_mem_cons.mpr ⟨⟨s_getf (ci := 8) (k := 22) rfl (by decide) inX12 w_1243 dX12_parade_145, s_mo_getf _ _ _⟩, (List.forall_mem_cons.mpr ⟨⟨s_ldI dX12_parade_148, s_mo_ldI _ _⟩, (List.forall_mem_cons.mpr ⟨⟨s_iconst dX12_parade_150 (by decide +kernel), s_mo_push _ _⟩, (List.forall_mem_cons.mpr ⟨⟨s_iadd dX12_parade_151, s_mo_bin _ _⟩, (List.forall_mem_cons.mpr ⟨⟨s_iald dX12_parade_152, s_mo_iald _⟩, (List.forall_mem_cons.mpr ⟨⟨s_sV mk_233 mk_231 ok_231 (by decide +kernel) dX12_parade_153 w_1649 w_1651 wp_73 (Or.inr ⟨8, _, _, rfl, rfl⟩), s_h0 mk_233⟩, (List.forall_mem_cons.mpr ⟨⟨s_ldAn dX12_parade_156 rfl, s_mo_ldA _ _⟩, (List.forall_mem_cons.mpr ⟨⟨s_ldIn dX12_parade_157 rfl, s_mo_ldI _ _⟩, (List.forall_mem_cons.mpr ⟨⟨s_ldI dX12_parade_158, s_mo_ldI _ _⟩, (List.forall_mem_cons.mpr ⟨⟨s_iadd dX12_parade_160, s_mo_bin _ _⟩, (List.forall_mem_cons.mpr ⟨⟨s_ldI dX12_parade_161, s_mo_ldI _ _⟩, (List.forall_mem_cons.mpr ⟨⟨s_sV mk_233 mk_230 ok_230 (by decide +kernel) dX12_parade_163 w_1645 w_1647 wp_72 (Or.inr ⟨8, _, _, rfl, rfl⟩), s_h0 mk_233⟩, (List.forall_mem_cons.mpr ⟨⟨s_iand dX12_parade_166, s_mo_bin _ _⟩, (List.forall_mem_cons.mpr ⟨⟨s_iast dX12_parade_167, s_mo_iast _⟩, (List.forall_mem_cons.mpr ⟨⟨s_inc dX12_parade_168 (by decide +kernel), s_mo_inc _ _ _⟩, (List.forall_mem_cons.mpr ⟨⟨s_goto dX12_parade_171 (by decide), s_mo_goto _⟩, (List.forall_mem_cons.mpr ⟨⟨s_ldIn dX12_parade_174 rfl, s_mo_ldI _ _⟩, (List.forall_mem_cons.mpr ⟨⟨s_stI dX12_parade_175, s_mo_stI _ _⟩, (List.forall_mem_cons.mpr ⟨⟨s_iconst dX12_parade_177 (by decide +kernel), s_mo_push _ _⟩, (List.forall_mem_cons.mpr ⟨⟨s_stI dX12_parade_178, s_mo_stI _ _⟩, (List.forall_mem_cons.mpr ⟨⟨s_ldI dX12_parade_180, s_mo_ldI _ _⟩, (List.forall_mem_cons.mpr ⟨⟨s_ldI dX12_parade_182, s_mo_ldI _ _⟩, (List.forall_mem_cons.mpr ⟨⟨s_icgt dX12_parade_184 (by decide), s_mo_icgt _ _⟩, (List.forall_mem_cons.mpr ⟨⟨s_ldAn dX12_parade_187 rfl, s_mo_ldA _ _⟩, (List.forall_mem_cons.mpr ⟨⟨s_getf (ci := 8) (k := 22) rfl (by decide) inX12 w_1243 dX12_parade_188, s_mo_getf _ _ _⟩, (List.forall_mem_cons.mpr ⟨⟨s_ldI dX12_parade_191, s_mo_ldI _ _⟩, (fun _ h => absurd h List.not_mem_nil)⟩)⟩)⟩)⟩)⟩)⟩)⟩)⟩)⟩)⟩)⟩)⟩)⟩)⟩)⟩)⟩)⟩)⟩)⟩)⟩)⟩)⟩)⟩)⟩)⟩)⟩)⟩)⟩)⟩)⟩)⟩)⟩)⟩)⟩)⟩)⟩)
set_option maxRecDepth 20000 in
theorem kb_233_3 : ∀ q ∈ tb_233_3, s_atx 233 yX12_parade cX12_parade q.1 q.2 := (List.forall_mem_cons.mpr ⟨⟨s_iald dX12_parade_193, s_mo_iald _⟩, (List.forall_mem_cons.mpr ⟨⟨s_ldI dX12_parade_194, s_mo_ldI _ _⟩, (List.forall_mem_cons.mpr ⟨⟨s_sS mk_233 mk_164 ok_164 (by decide +kernel) dX12_parade_196 w_1593 w_1594, s_h0 mk_233⟩, (List.forall_mem_cons.mpr ⟨⟨s_ifeq dX12_parade_199 (by decide), s_mo_ifeq _ _⟩, (List.forall_mem_cons.mpr ⟨⟨s_ldI dX12_parade_202, s_mo_ldI _ _⟩, (List.forall_mem_cons.mpr ⟨⟨s_goto dX12_parade_204 (by decide), s_mo_goto _⟩, (List.forall_mem_cons.mpr ⟨⟨s_iconst dX12_parade_207 (by decide +kernel), s_mo_push _ _⟩, (List.forall_mem_cons.mpr ⟨⟨s_stI dX12_parade_208, s_mo_stI _ _⟩, (List.forall_mem_cons.mpr ⟨⟨s_iconst dX12_parade_210 (by decide +kernel), s_mo_push _ _⟩, (List.forall_mem_cons.mpr ⟨⟨s_stI dX12_parade_211, s_mo_stI _ _⟩, (List.forall_mem_cons.mpr ⟨⟨s_ldI dX12_parade_213, s_mo_ldI _ _⟩, (List.forall_mem_cons.mpr ⟨⟨s_iconst dX12_parade_215 (by decide +kernel), s_mo_push _ _⟩, (List.forall_mem_cons.mpr ⟨⟨s_icge dX12_parade_216 (by decide), s_mo_icge _ _⟩, (List.forall_mem_cons.mpr ⟨⟨s_ldI dX12_parade_219, s_mo_ldI _ _⟩, (List.forall_mem_cons.mpr ⟨⟨s_ifge dX12_parade_221 (by decide), s_mo_ifge _ _⟩, (List.forall_mem_cons.mpr ⟨⟨s_ldAn dX12_parade_224 rfl, s_mo_ldA _ _⟩, (List.forall_mem_cons.mpr ⟨⟨s_ldI dX12_parade_225, s_mo_ldI _ _⟩, (List.forall_mem_cons.mpr ⟨⟨s_ldI dX12_parade_227, s_mo_ldI _ _⟩, (List.forall_mem_cons.mpr ⟨⟨s_sV mk_233 mk_163 ok_163 (by decide +kernel) dX12_parade_229 w_1604 w_1606 wp_66 (Or.inr ⟨8, _, _, rfl, rfl⟩), s_h0 mk_233⟩, (List.forall_mem_cons.mpr ⟨⟨s_iflt dX12_parade_232 (by decide), s_mo_iflt _ _⟩, (List.forall_mem_cons.mpr ⟨⟨s_ldAn dX12_parade_235 rfl, s_mo_ldA _ _⟩, (List.forall_mem_cons.mpr ⟨⟨s_getf (ci := 8) (k := 22) rfl (by decide) inX12 w_1243 dX12_parade_236, s_mo_getf _ _ _⟩, (List.forall_mem_cons.mpr ⟨⟨s_ldI dX12_parade_239, s_mo_ldI _ _⟩, (List.forall_mem_cons.mpr ⟨⟨s_iald dX12_parade_241, s_mo_iald _⟩, (List.forall_mem_cons.mpr ⟨⟨s_ldAn dX12_parade_242 rfl, s_mo_ldA _ _⟩, (List.forall_mem_cons.mpr ⟨⟨s_ldI dX12_parade_243, s_mo_ldI _ _⟩, (List.forall_mem_cons.mpr ⟨⟨s_ldI dX12_parade_245, s_mo_ldI _ _⟩, (List.forall_mem_cons.mpr ⟨⟨s_sV mk_233 mk_163 ok_163 (by decide +kernel) dX12_parade_247 w_1604 w_1606 wp_66 (Or.inr ⟨8, _, _, rfl, rfl⟩), s_h0 mk_233⟩, (List.forall_mem_cons.mpr ⟨⟨s_sS mk_233 mk_164 ok_164 (by decide +kernel) dX12_parade_250 w_1593 w_1594, s_h0 mk_233⟩, (List.forall_mem_cons.mpr ⟨⟨s_ifeq dX12_parade_253 (by decide), s_mo_ifeq _ _⟩, (fun _ h => absurd h List.not_mem_nil)⟩)⟩)⟩)⟩)⟩)⟩)⟩)⟩)⟩)⟩)⟩)⟩)⟩)⟩)⟩)⟩)⟩)⟩)⟩)⟩)⟩)⟩)⟩)⟩)⟩)⟩)⟩)⟩)⟩)⟩)
set_option maxRecDepth 20000 in
theorem kb_233_4 : ∀ q ∈ tb_233_4, s_atx 233 yX12_parade cX12_parade q.1 q.2 := (List.forall_mem_cons.mpr ⟨⟨s_ldAn dX12_parade_256 rfl, s_mo_ldA _ _⟩, (List.forall_mem_cons.mpr ⟨⟨s_ldI dX12_parade_257, s_mo_ldI _ _⟩, (List.forall_mem_cons.mpr ⟨⟨s_ldI dX12_parade_259, s_mo_ldI _ _⟩, (List.forall_mem_cons.mpr ⟨⟨s_sV mk_233 mk_163 ok_163 (by decide +kernel) dX12_parade_261 w_1604 w_1606 wp_66 (Or.inr ⟨8, _, _, rfl, rfl⟩), s_h0 mk_233⟩, (List.forall_mem_cons.mpr ⟨⟨s_goto dX12_parade_264 (by decide), s_mo_goto _⟩, (List.forall_mem_cons.mpr ⟨⟨s_iconst dX12_parade_267 (by decide +kernel), s_mo_push _ _⟩, (List.forall_mem_cons.mpr ⟨⟨s_stI dX12_parade_268, s_mo_stI _ _⟩, (List.forall_mem_cons.mpr ⟨⟨s_inc dX12_parade_270 (by decide +kernel), s_mo_inc _ _ _⟩, (List.forall_mem_cons.mpr ⟨⟨s_goto dX12_parade_273 (by decide), s_mo_goto _⟩, (List.forall_mem_cons.mpr ⟨⟨s_ldI dX12_parade_276, s_mo_ldI _ _⟩, (List.forall_mem_cons.mpr ⟨⟨s_stI dX12_parade_278, s_mo_stI _ _⟩, (List.forall_mem_cons.mpr ⟨⟨s_inc dX12_parade_280 (by decide +kernel), s_mo_inc _ _ _⟩, (List.forall_mem_cons.mpr ⟨⟨s_goto dX12_parade_283 (by decide), s_mo_goto _⟩, (List.forall_mem_cons.mpr ⟨⟨s_ldI dX12_parade_286, s_mo_ldI _ _⟩, (List.forall_mem_cons.mpr ⟨s_r1 mk_233 dX12_parade_288, (fun _ h => absurd h List.not_mem_nil)⟩)⟩)⟩)⟩)⟩)⟩)⟩)⟩)⟩)⟩)⟩)⟩)⟩)⟩)⟩)
theorem km_233 : ∀ t ∈ tm_233, s_tok 233 t := (List.forall_mem_cons.mpr ⟨s_lift mk_233 kb_233_0, (List.forall_mem_cons.mpr ⟨s_lift mk_233 kb_233_1, (List.forall_mem_cons.mpr ⟨s_lift mk_233 kb_233_2, (List.forall_mem_cons.mpr ⟨s_lift mk_233 kb_233_3, (List.forall_mem_cons.mpr ⟨s_lift mk_233 kb_233_4, (fun _ h => absurd h List.not_mem_nil)⟩)⟩)⟩)⟩)⟩)
theorem dX12_heaviest_0 : decode cX12_heaviest 0 = .ok (.aload_n 0, 1) := by decide +kernel
theorem dX12_heaviest_1 : decode cX12_heaviest 1 = .ok (.iconst 0, 1) := by decide +kernel
theorem dX12_heaviest_2 : decode cX12_heaviest 2 = .ok (.putfield 3, 3) := by decide +kernel
theorem dX12_heaviest_5 : decode cX12_heaviest 5 = .ok (.aload_n 0, 1) := by decide +kernel
theorem dX12_heaviest_6 : decode cX12_heaviest 6 = .ok (.aload_n 0, 1) := by decide +kernel
theorem dX12_heaviest_7 : decode cX12_heaviest 7 = .ok (.iload_n 1, 1) := by decide +kernel
theorem dX12_heaviest_8 : decode cX12_heaviest 8 = .ok (.invokevirtual 264, 3) := by decide +kernel
theorem dX12_heaviest_11 : decode cX12_heaviest 11 = .ok (.ifCond .ne 18, 3) := by decide +kernel
theorem dX12_heaviest_14 : decode cX12_heaviest 14 = .ok (.aload_n 0, 1) := by decide +kernel
theorem dX12_heaviest_15 : decode cX12_heaviest 15 = .ok (.iload_n 2, 1) := by decide +kernel
theorem dX12_heaviest_16 : decode cX12_heaviest 16 = .ok (.invokevirtual 264, 3) := by decide +kernel
theorem dX12_heaviest_19 : decode cX12_heaviest 19 = .ok (.ifCond .ne 10, 3) := by decide +kernel
theorem dX12_heaviest_22 : decode cX12_heaviest 22 = .ok (.iload_n 3, 1) := by decide +kernel
theorem dX12_heaviest_23 : decode cX12_heaviest 23 = .ok (.invokestatic 270, 3) := by decide +kernel
theorem dX12_heaviest_26 : decode cX12_heaviest 26 = .ok (.ifCond .eq 7, 3) := by decide +kernel
theorem dX12_heaviest_29 : decode cX12_heaviest 29 = .ok (.iconst 1, 1) := by decide +kernel
theorem dX12_heaviest_30 : decode cX12_heaviest 30 = .ok (.goto 4, 3) := by decide +kernel
theorem dX12_heaviest_33 : decode cX12_heaviest 33 = .ok (.iconst 0, 1) := by decide +kernel
theorem dX12_heaviest_34 : decode cX12_heaviest 34 = .ok (.iconst 1, 1) := by decide +kernel
theorem dX12_heaviest_35 : decode cX12_heaviest 35 = .ok (.invokevirtual 234, 3) := by decide +kernel
theorem dX12_heaviest_38 : decode cX12_heaviest 38 = .ok (.ifCond .eq 5, 3) := by decide +kernel
theorem dX12_heaviest_41 : decode cX12_heaviest 41 = .ok (.iconst 0, 1) := by decide +kernel
theorem dX12_heaviest_42 : decode cX12_heaviest 42 = .ok (.ireturn, 1) := by decide +kernel
theorem dX12_heaviest_43 : decode cX12_heaviest 43 = .ok (.iconst (-1), 1) := by decide +kernel
theorem dX12_heaviest_44 : decode cX12_heaviest 44 = .ok (.istore 4, 2) := by decide +kernel
theorem dX12_heaviest_46 : decode cX12_heaviest 46 = .ok (.sipush 1000, 3) := by decide +kernel
theorem dX12_heaviest_49 : decode cX12_heaviest 49 = .ok (.istore 5, 2) := by decide +kernel
theorem dX12_heaviest_51 : decode cX12_heaviest 51 = .ok (.iload 5, 2) := by decide +kernel
theorem dX12_heaviest_53 : decode cX12_heaviest 53 = .ok (.iload 4, 2) := by decide +kernel
theorem dX12_heaviest_55 : decode cX12_heaviest 55 = .ok (.isub, 1) := by decide +kernel
theorem dX12_heaviest_56 : decode cX12_heaviest 56 = .ok (.iconst 1, 1) := by decide +kernel
theorem dX12_heaviest_57 : decode cX12_heaviest 57 = .ok (.if_icmp .le 38, 3) := by decide +kernel
theorem dX12_heaviest_60 : decode cX12_heaviest 60 = .ok (.iload 4, 2) := by decide +kernel
theorem dX12_heaviest_62 : decode cX12_heaviest 62 = .ok (.iload 5, 2) := by decide +kernel
theorem dX12_heaviest_64 : decode cX12_heaviest 64 = .ok (.iadd, 1) := by decide +kernel
theorem dX12_heaviest_65 : decode cX12_heaviest 65 = .ok (.iconst 2, 1) := by decide +kernel
theorem dX12_heaviest_66 : decode cX12_heaviest 66 = .ok (.idiv, 1) := by decide +kernel
theorem dX12_heaviest_67 : decode cX12_heaviest 67 = .ok (.istore 6, 2) := by decide +kernel
theorem dX12_heaviest_69 : decode cX12_heaviest 69 = .ok (.aload_n 0, 1) := by decide +kernel
theorem dX12_heaviest_70 : decode cX12_heaviest 70 = .ok (.iload_n 1, 1) := by decide +kernel
theorem dX12_heaviest_71 : decode cX12_heaviest 71 = .ok (.iload_n 2, 1) := by decide +kernel
theorem dX12_heaviest_72 : decode cX12_heaviest 72 = .ok (.iload_n 3, 1) := by decide +kernel
theorem dX12_heaviest_73 : decode cX12_heaviest 73 = .ok (.iload 6, 2) := by decide +kernel
theorem dX12_heaviest_75 : decode cX12_heaviest 75 = .ok (.invokevirtual 340, 3) := by decide +kernel
theorem dX12_heaviest_78 : decode cX12_heaviest 78 = .ok (.ifCond .lt 10, 3) := by decide +kernel
theorem dX12_heaviest_81 : decode cX12_heaviest 81 = .ok (.iload 6, 2) := by decide +kernel
theorem dX12_heaviest_83 : decode cX12_heaviest 83 = .ok (.istore 4, 2) := by decide +kernel
theorem dX12_heaviest_85 : decode cX12_heaviest 85 = .ok (.goto 7, 3) := by decide +kernel
theorem dX12_heaviest_88 : decode cX12_heaviest 88 = .ok (.iload 6, 2) := by decide +kernel
theorem dX12_heaviest_90 : decode cX12_heaviest 90 = .ok (.istore 5, 2) := by decide +kernel
theorem dX12_heaviest_92 : decode cX12_heaviest 92 = .ok (.goto (-41), 3) := by decide +kernel
theorem dX12_heaviest_95 : decode cX12_heaviest 95 = .ok (.iload 4, 2) := by decide +kernel
theorem dX12_heaviest_97 : decode cX12_heaviest 97 = .ok (.ireturn, 1) := by decide +kernel
set_option maxRecDepth 20000 in
theorem kb_234_0 : ∀ q ∈ tb_234_0, s_atx 234 yX12_heaviest cX12_heaviest q.1 q.2 := (List.forall_mem_cons.mpr ⟨⟨s_ldAn dX12_heaviest_0 rfl, s_mo_ldA _ _⟩, (List.forall_mem_cons.mpr ⟨⟨s_iconst dX12_heaviest_1 (by decide +kernel), s_mo_push _ _⟩, (List.forall_mem_cons.mpr ⟨⟨s_putI (ci := 8) (k := 0) rfl (by decide) inX12 tyX12_ok nmX12 rfl rfl w_1221 dX12_heaviest_2, s_mo_putI _ _ _⟩, (List.forall_mem_cons.mpr ⟨⟨s_ldAn dX12_heaviest_5 rfl, s_mo_ldA _ _⟩, (List.forall_mem_cons.mpr ⟨⟨s_ldAn dX12_heaviest_6 rfl, s_mo_ldA _ _⟩, (List.forall_mem_cons.mpr ⟨⟨s_ldIn dX12_heaviest_7 rfl, s_mo_ldI _ _⟩, (List.forall_mem_cons.mpr ⟨⟨s_sV mk_234 mk_160 ok_160 (by decide +kernel) dX12_heaviest_8 w_1450 w_1452 wp_48 (Or.inr ⟨8, _, _, rfl, rfl⟩), s_h0 mk_234⟩, (List.forall_mem_cons.mpr ⟨⟨s_ifne dX12_heaviest_11 (by decide), s_mo_ifne _ _⟩, (List.forall_mem_cons.mpr ⟨⟨s_ldAn dX12_heaviest_14 rfl, s_mo_ldA _ _⟩, (List.forall_mem_cons.mpr ⟨⟨s_ldIn dX12_heaviest_15 rfl, s_mo_ldI _ _⟩, (List.forall_mem_cons.mpr ⟨⟨s_sV mk_234 mk_160 ok_160 (by decide +kernel) dX12_heaviest_16 w_1450 w_1452 wp_48 (Or.inr ⟨8, _, _, rfl, rfl⟩), s_h0 mk_234⟩, (List.forall_mem_cons.mpr ⟨⟨s_ifne dX12_heaviest_19 (by decide), s_mo_ifne _ _⟩, (List.forall_mem_cons.mpr ⟨⟨s_ldIn dX12_heaviest_22 rfl, s_mo_ldI _ _⟩, (List.forall_mem_cons.mpr ⟨⟨s_sS mk_234 mk_161 ok_161 (by decide +kernel) dX12_heaviest_23 w_1503 w_1504, s_h0 mk_234⟩, (List.forall_mem_cons.mpr ⟨⟨s_ifeq dX12_heaviest_26 (by decide), s_mo_ifeq _ _⟩, (List.forall_mem_cons.mpr ⟨⟨s_iconst dX12_heaviest_29 (by decide +kernel), s_mo_push _ _⟩, (List.forall_mem_cons.mpr ⟨⟨s_goto dX12_heaviest_30 (by decide), s_mo_goto _⟩, (List.forall_mem_cons.mpr ⟨⟨s_iconst dX12_heaviest_33 (by decide +kernel), s_mo_push _ _⟩, (List.forall_mem_cons.mpr ⟨⟨s_iconst dX12_heaviest_34 (by decide +kernel), s_mo_push _ _⟩, (List.forall_mem_cons.mpr ⟨⟨s_sV mk_234 mk_149 ok_149 (by decide +kernel) dX12_heaviest_35 w_1438 w_1440 wp_47 (Or.inr ⟨8, _, _, rfl, rfl⟩), s_h0 mk_234⟩, (List.forall_mem_cons.mpr ⟨⟨s_ifeq dX12_heaviest_38 (by decide), s_mo_ifeq _ _⟩, (List.forall_mem_cons.mpr ⟨⟨s_iconst dX12_heaviest_41 (by decide +kernel), s_mo_push _ _⟩, (List.forall_mem_cons.mpr ⟨s_r1 mk_234 dX12_heaviest_42, (List.forall_mem_cons.mpr ⟨⟨s_iconst dX12_heaviest_43 (by decide +kernel), s_mo_push _ _⟩, (List.forall_mem_cons.mpr ⟨⟨s_stI dX12_heaviest_44, s_mo_stI _ _⟩, (List.forall_mem_cons.mpr ⟨⟨s_sipush dX12_heaviest_46 (by decide +kernel), s_mo_push _ _⟩, (List.forall_mem_cons.mpr ⟨⟨s_stI dX12_heaviest_49, s_mo_stI _ _⟩, (List.forall_mem_cons.mpr ⟨⟨s_ldI dX12_heaviest_51, s_mo_ldI _ _⟩, (List.forall_mem_cons.mpr ⟨⟨s_ldI dX12_heaviest_53, s_mo_ldI _ _⟩, (List.forall_mem_cons.mpr ⟨⟨s_isub dX12_heaviest_55, s_mo_bin _ _⟩, (List.forall_mem_cons.mpr ⟨⟨s_iconst dX12_heaviest_56 (by decide +kernel), s_mo_push _ _⟩, (List.forall_mem_cons.mpr ⟨⟨s_icle dX12_heaviest_57 (by decide), s_mo_icle _ _⟩, (List.forall_mem_cons.mpr ⟨⟨s_ldI dX12_heaviest_60, s_mo_ldI _ _⟩, (List.forall_mem_cons.mpr ⟨⟨s_ldI dX12_heaviest_62, s_mo_ldI _ _⟩, (fun _ h => absurd h List.not_mem_nil)⟩)⟩)⟩)⟩)⟩)⟩)⟩)⟩)⟩)⟩)⟩)⟩)⟩)⟩)⟩)⟩)⟩)⟩)⟩)⟩)⟩)⟩)⟩)⟩)⟩)⟩)⟩)⟩)⟩)⟩)⟩)⟩)⟩)⟩)
set_option maxRecDepth 20000 in
theorem kb_234_1 : ∀ q ∈ tb_234_1, s_atx 234 yX12_heaviest cX12_heaviest q.1 q.2 := (List.forall_mem_cons.mpr ⟨⟨s_iadd dX12_heaviest_64, s_mo_bin _ _⟩, (List.forall_mem_cons.mpr ⟨⟨s_iconst dX12_heaviest_65 (by decide +kernel), s_mo_push _ _⟩, (List.forall_mem_cons.mpr ⟨⟨s_idiv dX12_heaviest_66, s_mo_div _⟩, (List.forall_mem_cons.mpr ⟨⟨s_stI dX12_heaviest_67, s_mo_stI _ _⟩, (List.forall_mem_cons.mpr ⟨⟨s_ldAn dX12_heaviest_69 rfl, s_mo_ldA _ _⟩, (List.forall_mem_cons.mpr ⟨⟨s_ldIn dX12_heaviest_70 rfl, s_mo_ldI _ _⟩, (List.forall_mem_cons.mpr ⟨⟨s_ldIn dX12_heaviest_71 rfl, s_mo_ldI _ _⟩, (List.forall_mem_cons.mpr ⟨⟨s_ldIn dX12_heaviest_72 rfl, s_mo_ldI _ _⟩, (List.forall_mem_cons.mpr ⟨⟨s_ldI dX12_heaviest_73, s_mo_ldI _ _⟩, (List.forall_mem_cons.mpr ⟨⟨s_sV mk_234 mk_232 ok_232 (by decide +kernel) dX12_heaviest_75 w_1641 w_1643 wp_71 (Or.inr ⟨8, _, _, rfl, rfl⟩), s_h0 mk_234⟩, (List.forall_mem_cons.mpr ⟨⟨s_iflt dX12_heaviest_78 (by decide), s_mo_iflt _ _⟩, (List.forall_mem_cons.mpr ⟨⟨s_ldI dX12_heaviest_81, s_mo_ldI _ _⟩, (List.forall_mem_cons.mpr ⟨⟨s_stI dX12_heaviest_83, s_mo_stI _ _⟩, (List.forall_mem_cons.mpr ⟨⟨s_goto dX12_heaviest_85 (by decide), s_mo_goto _⟩, (List.forall_mem_cons.mpr ⟨⟨s_ldI dX12_heaviest_88, s_mo_ldI _ _⟩, (List.forall_mem_cons.mpr ⟨⟨s_stI dX12_heaviest_90, s_mo_stI _ _⟩, (List.forall_mem_cons.mpr ⟨⟨s_goto dX12_heaviest_92 (by decide), s_mo_goto _⟩, (List.forall_mem_cons.mpr ⟨⟨s_ldI dX12_heaviest_95, s_mo_ldI _ _⟩, (List.forall_mem_cons.mpr ⟨s_r1 mk_234 dX12_heaviest_97, (fun _ h => absurd h List.not_mem_nil)⟩)⟩)⟩)⟩)⟩)⟩)⟩)⟩)⟩)⟩)⟩)⟩)⟩)⟩)⟩)⟩)⟩)⟩)⟩)
theorem km_234 : ∀ t ∈ tm_234, s_tok 234 t := (List.forall_mem_cons.mpr ⟨s_lift mk_234 kb_234_0, (List.forall_mem_cons.mpr ⟨s_lift mk_234 kb_234_1, (fun _ h => absurd h List.not_mem_nil)⟩)⟩)
theorem dX12_weakest_0 : decode cX12_weakest 0 = .ok (.aload_n 0, 1) := by decide +kernel
theorem dX12_weakest_1 : decode cX12_weakest 1 = .ok (.iconst 0, 1) := by decide +kernel
theorem dX12_weakest_2 : decode cX12_weakest 2 = .ok (.putfield 3, 3) := by decide +kernel
theorem dX12_weakest_5 : decode cX12_weakest 5 = .ok (.aload_n 0, 1) := by decide +kernel
theorem dX12_weakest_6 : decode cX12_weakest 6 = .ok (.iload_n 1, 1) := by decide +kernel
theorem dX12_weakest_7 : decode cX12_weakest 7 = .ok (.invokestatic 270, 3) := by decide +kernel
theorem dX12_weakest_10 : decode cX12_weakest 10 = .ok (.iconst 1, 1) := by decide +kernel
theorem dX12_weakest_11 : decode cX12_weakest 11 = .ok (.invokevirtual 234, 3) := by decide +kernel
theorem dX12_weakest_14 : decode cX12_weakest 14 = .ok (.ifCond .eq 5, 3) := by decide +kernel
theorem dX12_weakest_17 : decode cX12_weakest 17 = .ok (.iconst 0, 1) := by decide +kernel
theorem dX12_weakest_18 : decode cX12_weakest 18 = .ok (.ireturn, 1) := by decide +kernel
theorem dX12_weakest_19 : decode cX12_weakest 19 = .ok (.iconst 0, 1) := by decide +kernel
theorem dX12_weakest_20 : decode cX12_weakest 20 = .ok (.istore_n 2, 1) := by decide +kernel
theorem dX12_weakest_21 : decode cX12_weakest 21 = .ok (.iconst 1, 1) := by decide +kernel
theorem dX12_weakest_22 : decode cX12_weakest 22 = .ok (.istore_n 3, 1) := by decide +kernel
theorem dX12_weakest_23 : decode cX12_weakest 23 = .ok (.iload_n 3, 1) := by decide +kernel
theorem dX12_weakest_24 : decode cX12_weakest 24 = .ok (.aload_n 0, 1) := by decide +kernel
theorem dX12_weakest_25 : decode cX12_weakest 25 = .ok (.invokevirtual 80, 3) := by decide +kernel
theorem dX12_weakest_28 : decode cX12_weakest 28 = .ok (.if_icmp .ge 42, 3) := by decide +kernel
theorem dX12_weakest_31 : decode cX12_weakest 31 = .ok (.aload_n 0, 1) := by decide +kernel
theorem dX12_weakest_32 : decode cX12_weakest 32 = .ok (.iload_n 3, 1) := by decide +kernel
theorem dX12_weakest_33 : decode cX12_weakest 33 = .ok (.invokevirtual 261, 3) := by decide +kernel
theorem dX12_weakest_36 : decode cX12_weakest 36 = .ok (.aload_n 0, 1) := by decide +kernel
theorem dX12_weakest_37 : decode cX12_weakest 37 = .ok (.iload_n 3, 1) := by decide +kernel
theorem dX12_weakest_38 : decode cX12_weakest 38 = .ok (.iload_n 1, 1) := by decide +kernel
theorem dX12_weakest_39 : decode cX12_weakest 39 = .ok (.invokevirtual 258, 3) := by decide +kernel
theorem dX12_weakest_42 : decode cX12_weakest 42 = .ok (.isub, 1) := by decide +kernel
theorem dX12_weakest_43 : decode cX12_weakest 43 = .ok (.aload_n 0, 1) := by decide +kernel
theorem dX12_weakest_44 : decode cX12_weakest 44 = .ok (.iload_n 2, 1) := by decide +kernel
theorem dX12_weakest_45 : decode cX12_weakest 45 = .ok (.invokevirtual 261, 3) := by decide +kernel
theorem dX12_weakest_48 : decode cX12_weakest 48 = .ok (.aload_n 0, 1) := by decide +kernel
theorem dX12_weakest_49 : decode cX12_weakest 49 = .ok (.iload_n 2, 1) := by decide +kernel
theorem dX12_weakest_50 : decode cX12_weakest 50 = .ok (.iload_n 1, 1) := by decide +kernel
theorem dX12_weakest_51 : decode cX12_weakest 51 = .ok (.invokevirtual 258, 3) := by decide +kernel
theorem dX12_weakest_54 : decode cX12_weakest 54 = .ok (.isub, 1) := by decide +kernel
theorem dX12_weakest_55 : decode cX12_weakest 55 = .ok (.if_icmp .ge 7, 3) := by decide +kernel
theorem dX12_weakest_58 : decode cX12_weakest 58 = .ok (.iload_n 3, 1) := by decide +kernel
theorem dX12_weakest_59 : decode cX12_weakest 59 = .ok (.goto 4, 3) := by decide +kernel
theorem dX12_weakest_62 : decode cX12_weakest 62 = .ok (.iload_n 2, 1) := by decide +kernel
theorem dX12_weakest_63 : decode cX12_weakest 63 = .ok (.istore_n 2, 1) := by decide +kernel
theorem dX12_weakest_64 : decode cX12_weakest 64 = .ok (.iinc 3 1, 3) := by decide +kernel
theorem dX12_weakest_67 : decode cX12_weakest 67 = .ok (.goto (-44), 3) := by decide +kernel
theorem dX12_weakest_70 : decode cX12_weakest 70 = .ok (.iload_n 2, 1) := by decide +kernel
theorem dX12_weakest_71 : decode cX12_weakest 71 = .ok (.ireturn, 1) := by decide +kernel
set_option maxRecDepth 20000 in
theorem kb_235_0 : ∀ q ∈ tb_235_0, s_atx 235 yX12_weakest cX12_weakest q.1 q.2 := (List.forall_mem_cons.mpr ⟨⟨s_ldAn dX12_weakest_0 rfl, s_mo_ldA _ _⟩, (List.forall_mem_cons.mpr ⟨⟨s_iconst dX12_weakest_1 (by decide +kernel), s_mo_push _ _⟩, (List.forall_mem_cons.mpr ⟨⟨s_putI (ci := 8) (k := 0) rfl (by decide) inX12 tyX12_ok nmX12 rfl rfl w_1221 dX12_weakest_2, s_mo_putI _ _ _⟩, (List.forall_mem_cons.mpr ⟨⟨s_ldAn dX12_weakest_5 rfl, s_mo_ldA _ _⟩, (List.forall_mem_cons.mpr ⟨⟨s_ldIn dX12_weakest_6 rfl, s_mo_ldI _ _⟩, (List.forall_mem_cons.mpr ⟨⟨s_sS mk_235 mk_161 ok_161 (by decide +kernel) dX12_weakest_7 w_1503 w_1504, s_h0 mk_235⟩, (List.forall_mem_cons.mpr ⟨⟨s_iconst dX12_weakest_10 (by decide +kernel), s_mo_push _ _⟩, (List.forall_mem_cons.mpr ⟨⟨s_sV mk_235 mk_149 ok_149 (by decide +kernel) dX12_weakest_11 w_1438 w_1440 wp_47 (Or.inr ⟨8, _, _, rfl, rfl⟩), s_h0 mk_235⟩, (List.forall_mem_cons.mpr ⟨⟨s_ifeq dX12_weakest_14 (by decide), s_mo_ifeq _ _⟩, (List.forall_mem_cons.mpr ⟨⟨s_iconst dX12_weakest_17 (by decide +kernel), s_mo_push _ _⟩, (List.forall_mem_cons.mpr ⟨s_r1 mk_235 dX12_weakest_18, (List.forall_mem_cons.mpr ⟨⟨s_iconst dX12_weakest_19 (by decide +kernel), s_mo_push _ _⟩, (List.forall_mem_cons.mpr ⟨⟨s_stIn dX12_weakest_20 rfl, s_mo_stI _ _⟩, (List.forall_mem_cons.mpr ⟨⟨s_iconst dX12_weakest_21 (by decide +kernel), s_mo_push _ _⟩, (List.forall_mem_cons.mpr ⟨⟨s_stIn dX12_weakest_22 rfl, s_mo_stI _ _⟩, (List.forall_mem_cons.mpr ⟨⟨s_ldIn dX12_weakest_23 rfl, s_mo_ldI _ _⟩, (List.forall_mem_cons.mpr ⟨⟨s_ldAn dX12_weakest_24 rfl, s_mo_ldA _ _⟩, (List.forall_mem_cons.mpr ⟨⟨s_sV mk_235 mk_156 ok_156 (by decide +kernel) dX12_weakest_25 w_1454 w_1456 wp_49 (Or.inr ⟨8, _, _, rfl, rfl⟩), s_h0 mk_235⟩, (List.forall_mem_cons.mpr ⟨⟨s_icge dX12_weakest_28 (by decide), s_mo_icge _ _⟩, (List.forall_mem_cons.mpr ⟨⟨s_ldAn dX12_weakest_31 rfl, s_mo_ldA _ _⟩, (List.forall_mem_cons.mpr ⟨⟨s_ldIn dX12_weakest_32 rfl, s_mo_ldI _ _⟩, (List.forall_mem_cons.mpr ⟨⟨s_sV mk_235 mk_192 ok_192 (by decide +kernel) dX12_weakest_33 w_1461 w_1463 wp_50 (Or.inr ⟨8, _, _, rfl, rfl⟩), s_h0 mk_235⟩, (List.forall_mem_cons.mpr ⟨⟨s_ldAn dX12_weakest_36 rfl, s_mo_ldA _ _⟩, (List.forall_mem_cons.mpr ⟨⟨s_ldIn dX12_weakest_37 rfl, s_mo_ldI _ _⟩, (List.forall_mem_cons.mpr ⟨⟨s_ldIn dX12_weakest_38 rfl, s_mo_ldI _ _⟩, (List.forall_mem_cons.mpr ⟨⟨s_sV mk_235 mk_195 ok_195 (by decide +kernel) dX12_weakest_39 w_1506 w_1508 wp_55 (Or.inr ⟨8, _, _, rfl, rfl⟩), s_h0 mk_235⟩, (List.forall_mem_cons.mpr ⟨⟨s_isub dX12_weakest_42, s_mo_bin _ _⟩, (List.forall_mem_cons.mpr ⟨⟨s_ldAn dX12_weakest_43 rfl, s_mo_ldA _ _⟩, (List.forall_mem_cons.mpr ⟨⟨s_ldIn dX12_weakest_44 rfl, s_mo_ldI _ _⟩, (List.forall_mem_cons.mpr ⟨⟨s_sV mk_235 mk_192 ok_192 (by decide +kernel) dX12_weakest_45 w_1461 w_1463 wp_50 (Or.inr ⟨8, _, _, rfl, rfl⟩), s_h0 mk_235⟩, (List.forall_mem_cons.mpr ⟨⟨s_ldAn dX12_weakest_48 rfl, s_mo_ldA _ _⟩, (List.forall_mem_cons.mpr ⟨⟨s_ldIn dX12_weakest_49 rfl, s_mo_ldI _ _⟩, (List.forall_mem_cons.mpr ⟨⟨s_ldIn dX12_weakest_50 rfl, s_mo_ldI _ _⟩, (List.forall_mem_cons.mpr ⟨⟨s_sV mk_235 mk_195 ok_195 (by decide +kernel) dX12_weakest_51 w_1506 w_1508 wp_55 (Or.inr ⟨8, _, _, rfl, rfl⟩), s_h0 mk_235⟩, (List.forall_mem_cons.mpr ⟨⟨s_isub dX12_weakest_54, s_mo_bin _ _⟩, (List.forall_mem_cons.mpr ⟨⟨s_icge dX12_weakest_55 (by decide), s_mo_icge _ _⟩, (List.forall_mem_cons.mpr ⟨⟨s_ldIn dX12_weakest_58 rfl, s_mo_ldI _ _⟩, (List.forall_mem_cons.mpr ⟨⟨s_goto dX12_weakest_59 (by decide), s_mo_goto _⟩, (List.forall_mem_cons.mpr ⟨⟨s_ldIn dX12_weakest_62 rfl, s_mo_ldI _ _⟩, (List.forall_mem_cons.mpr ⟨⟨s_stIn dX12_weakest_63 rfl, s_mo_stI _ _⟩, (fun _ h => absurd h List.not_mem_nil)⟩)⟩)⟩)⟩)⟩)⟩)⟩)⟩)⟩)⟩)⟩)⟩)⟩)⟩)⟩)⟩)⟩)⟩)⟩)⟩)⟩)⟩)⟩)⟩)⟩)⟩)⟩)⟩)⟩)⟩)⟩)⟩)⟩)⟩)⟩)⟩)⟩)⟩)⟩)⟩)
set_option maxRecDepth 20000 in
theorem kb_235_1 : ∀ q ∈ tb_235_1, s_atx 235 yX12_weakest cX12_weakest q.1 q.2 := (List.forall_mem_cons.mpr ⟨⟨s_inc dX12_weakest_64 (by decide +kernel), s_mo_inc _ _ _⟩, (List.forall_mem_cons.mpr ⟨⟨s_goto dX12_weakest_67 (by decide), s_mo_goto _⟩, (List.forall_mem_cons.mpr ⟨⟨s_ldIn dX12_weakest_70 rfl, s_mo_ldI _ _⟩, (List.forall_mem_cons.mpr ⟨s_r1 mk_235 dX12_weakest_71, (fun _ h => absurd h List.not_mem_nil)⟩)⟩)⟩)⟩)
theorem km_235 : ∀ t ∈ tm_235, s_tok 235 t := (List.forall_mem_cons.mpr ⟨s_lift mk_235 kb_235_0, (List.forall_mem_cons.mpr ⟨s_lift mk_235 kb_235_1, (fun _ h => absurd h List.not_mem_nil)⟩)⟩)
theorem dX12_leads_0 : decode cX12_leads 0 = .ok (.aload_n 0, 1) := by decide +kernel
theorem dX12_leads_1 : decode cX12_leads 1 = .ok (.iload 5, 2) := by decide +kernel
theorem dX12_leads_3 : decode cX12_leads 3 = .ok (.iconst 0, 1) := by decide +kernel
theorem dX12_leads_4 : decode cX12_leads 4 = .ok (.invokevirtual 88, 3) := by decide +kernel
theorem dX12_leads_7 : decode cX12_leads 7 = .ok (.istore 7, 2) := by decide +kernel
theorem dX12_leads_9 : decode cX12_leads 9 = .ok (.aload_n 0, 1) := by decide +kernel
theorem dX12_leads_10 : decode cX12_leads 10 = .ok (.iload 6, 2) := by decide +kernel
theorem dX12_leads_12 : decode cX12_leads 12 = .ok (.iconst 0, 1) := by decide +kernel
theorem dX12_leads_13 : decode cX12_leads 13 = .ok (.invokevirtual 88, 3) := by decide +kernel
theorem dX12_leads_16 : decode cX12_leads 16 = .ok (.istore 8, 2) := by decide +kernel
theorem dX12_leads_18 : decode cX12_leads 18 = .ok (.aload_n 0, 1) := by decide +kernel
theorem dX12_leads_19 : decode cX12_leads 19 = .ok (.iload 5, 2) := by decide +kernel
theorem dX12_leads_21 : decode cX12_leads 21 = .ok (.iconst 0, 1) := by decide +kernel
theorem dX12_leads_22 : decode cX12_leads 22 = .ok (.bipush 9, 2) := by decide +kernel
theorem dX12_leads_24 : decode cX12_leads 24 = .ok (.invokevirtual 69, 3) := by decide +kernel
theorem dX12_leads_27 : decode cX12_leads 27 = .ok (.aload_n 0, 1) := by decide +kernel
theorem dX12_leads_28 : decode cX12_leads 28 = .ok (.iload 6, 2) := by decide +kernel
theorem dX12_leads_30 : decode cX12_leads 30 = .ok (.iconst 0, 1) := by decide +kernel
theorem dX12_leads_31 : decode cX12_leads 31 = .ok (.bipush 9, 2) := by decide +kernel
theorem dX12_leads_33 : decode cX12_leads 33 = .ok (.invokevirtual 69, 3) := by decide +kernel
theorem dX12_leads_36 : decode cX12_leads 36 = .ok (.aload_n 0, 1) := by decide +kernel
theorem dX12_leads_37 : decode cX12_leads 37 = .ok (.iload_n 1, 1) := by decide +kernel
theorem dX12_leads_38 : decode cX12_leads 38 = .ok (.iload_n 2, 1) := by decide +kernel
theorem dX12_leads_39 : decode cX12_leads 39 = .ok (.iload_n 3, 1) := by decide +kernel
theorem dX12_leads_40 : decode cX12_leads 40 = .ok (.iload 4, 2) := by decide +kernel
theorem dX12_leads_42 : decode cX12_leads 42 = .ok (.invokevirtual 340, 3) := by decide +kernel
theorem dX12_leads_45 : decode cX12_leads 45 = .ok (.ifCond .lt 7, 3) := by decide +kernel
theorem dX12_leads_48 : decode cX12_leads 48 = .ok (.iconst 1, 1) := by decide +kernel
theorem dX12_leads_49 : decode cX12_leads 49 = .ok (.goto 4, 3) := by decide +kernel
theorem dX12_leads_52 : decode cX12_leads 52 = .ok (.iconst 0, 1) := by decide +kernel
theorem dX12_leads_53 : decode cX12_leads 53 = .ok (.istore 9, 2) := by decide +kernel
theorem dX12_leads_55 : decode cX12_leads 55 = .ok (.aload_n 0, 1) := by decide +kernel
theorem dX12_leads_56 : decode cX12_leads 56 = .ok (.iload 6, 2) := by decide +kernel
theorem dX12_leads_58 : decode cX12_leads 58 = .ok (.iconst 0, 1) := by decide +kernel
theorem dX12_leads_59 : decode cX12_leads 59 = .ok (.iload 8, 2) := by decide +kernel
theorem dX12_leads_61 : decode cX12_leads 61 = .ok (.invokevirtual 69, 3) := by decide +kernel
theorem dX12_leads_64 : decode cX12_leads 64 = .ok (.aload_n 0, 1) := by decide +kernel
theorem dX12_leads_65 : decode cX12_leads 65 = .ok (.iload 5, 2) := by decide +kernel
theorem dX12_leads_67 : decode cX12_leads 67 = .ok (.iconst 0, 1) := by decide +kernel
theorem dX12_leads_68 : decode cX12_leads 68 = .ok (.iload 7, 2) := by decide +kernel
theorem dX12_leads_70 : decode cX12_leads 70 = .ok (.invokevirtual 69, 3) := by decide +kernel
theorem dX12_leads_73 : decode cX12_leads 73 = .ok (.iload 9, 2) := by decide +kernel
theorem dX12_leads_75 : decode cX12_leads 75 = .ok (.ireturn, 1) := by decide +kernel
set_option maxRecDepth 20000 in
theorem kb_236_0 : ∀ q ∈ tb_236_0, s_atx 236 yX12_leads cX12_leads q.1 q.2 := (List.forall_mem_cons.mpr ⟨⟨s_ldAn dX12_leads_0 rfl, s_mo_ldA _ _⟩, (List.forall_mem_cons.mpr ⟨⟨s_ldI dX12_leads_1, s_mo_ldI _ _⟩, (List.forall_mem_cons.mpr ⟨⟨s_iconst dX12_leads_3 (by decide +kernel), s_mo_push _ _⟩, (List.forall_mem_cons.mpr ⟨⟨s_sV mk_236 mk_158 ok_158 (by decide +kernel) dX12_leads_4 w_1469 w_1471 wp_52 (Or.inr ⟨8, _, _, rfl, rfl⟩), s_h0 mk_236⟩, (List.forall_mem_cons.mpr ⟨⟨s_stI dX12_leads_7, s_mo_stI _ _⟩, (List.forall_mem_cons.mpr ⟨⟨s_ldAn dX12_leads_9 rfl, s_mo_ldA _ _⟩, (List.forall_mem_cons.mpr ⟨⟨s_ldI dX12_leads_10, s_mo_ldI _ _⟩, (List.forall_mem_cons.mpr ⟨⟨s_iconst dX12_leads_12 (by decide +kernel), s_mo_push _ _⟩, (List.forall_mem_cons.mpr ⟨⟨s_sV mk_236 mk_158 ok_158 (by decide +kernel) dX12_leads_13 w_1469 w_1471 wp_52 (Or.inr ⟨8, _, _, rfl, rfl⟩), s_h0 mk_236⟩, (List.forall_mem_cons.mpr ⟨⟨s_stI dX12_leads_16, s_mo_stI _ _⟩, (List.forall_mem_cons.mpr ⟨⟨s_ldAn dX12_leads_18 rfl, s_mo_ldA _ _⟩, (List.forall_mem_cons.mpr ⟨⟨s_ldI dX12_leads_19, s_mo_ldI _ _⟩, (List.forall_mem_cons.mpr ⟨⟨s_iconst dX12_leads_21 (by decide +kernel), s_mo_push _ _⟩, (List.forall_mem_cons.mpr ⟨⟨s_bipush dX12_leads_22 (by decide +kernel), s_mo_push _ _⟩, (List.forall_mem_cons.mpr ⟨⟨s_sV mk_236 mk_159 ok_159 (by decide +kernel) dX12_leads_24 w_1217 w_1219 wp_24 (Or.inr ⟨8, _, _, rfl, rfl⟩), s_h0 mk_236⟩, (List.forall_mem_cons.mpr ⟨⟨s_ldAn dX12_leads_27 rfl, s_mo_ldA _ _⟩, (List.forall_mem_cons.mpr ⟨⟨s_ldI dX12_leads_28, s_mo_ldI _ _⟩, (List.forall_mem_cons.mpr ⟨⟨s_iconst dX12_leads_30 (by decide +kernel), s_mo_push _ _⟩, (List.forall_mem_cons.mpr ⟨⟨s_bipush dX12_leads_31 (by decide +kernel), s_mo_push _ _⟩, (List.forall_mem_cons.mpr ⟨⟨s_sV mk_236 mk_159 ok_159 (by decide +kernel) dX12_leads_33 w_1217 w_1219 wp_24 (Or.inr ⟨8, _, _, rfl, rfl⟩), s_h0 mk_236⟩, (List.forall_mem_cons.mpr ⟨⟨s_ldAn dX12_leads_36 rfl, s_mo_ldA _ _⟩, (List.forall_mem_cons.mpr ⟨⟨s_ldIn dX12_leads_37 rfl, s_mo_ldI _ _⟩, (List.forall_mem_cons.mpr ⟨⟨s_ldIn dX12_leads_38 rfl, s_mo_ldI _ _⟩, (List.forall_mem_cons.mpr ⟨⟨s_ldIn dX12_leads_39 rfl, s_mo_ldI _ _⟩, (List.forall_mem_cons.mpr ⟨⟨s_ldI dX12_leads_40, s_mo_ldI _ _⟩, (List.forall_mem_cons.mpr ⟨⟨s_sV mk_236 mk_232 ok_232 (by decide +kernel) dX12_leads_42 w_1641 w_1643 wp_71 (Or.inr ⟨8, _, _, rfl, rfl⟩), s_h0 mk_236⟩, (List.forall_mem_cons.mpr ⟨⟨s_iflt dX12_leads_45 (by decide), s_mo_iflt _ _⟩, (List.forall_mem_cons.mpr ⟨⟨s_iconst dX12_leads_48 (by decide +kernel), s_mo_push _ _⟩, (List.forall_mem_cons.mpr ⟨⟨s_goto dX12_leads_49 (by decide), s_mo_goto _⟩, (List.forall_mem_cons.mpr ⟨⟨s_iconst dX12_leads_52 (by decide +kernel), s_mo_push _ _⟩, (List.forall_mem_cons.mpr ⟨⟨s_stI dX12_leads_53, s_mo_stI _ _⟩, (List.forall_mem_cons.mpr ⟨⟨s_ldAn dX12_leads_55 rfl, s_mo_ldA _ _⟩, (List.forall_mem_cons.mpr ⟨⟨s_ldI dX12_leads_56, s_mo_ldI _ _⟩, (List.forall_mem_cons.mpr ⟨⟨s_iconst dX12_leads_58 (by decide +kernel), s_mo_push _ _⟩, (List.forall_mem_cons.mpr ⟨⟨s_ldI dX12_leads_59, s_mo_ldI _ _⟩, (List.forall_mem_cons.mpr ⟨⟨s_sV mk_236 mk_159 ok_159 (by decide +kernel) dX12_leads_61 w_1217 w_1219 wp_24 (Or.inr ⟨8, _, _, rfl, rfl⟩), s_h0 mk_236⟩, (fun _ h => absurd h List.not_mem_nil)⟩)⟩)⟩)⟩)⟩)⟩)⟩)⟩)⟩)⟩)⟩)⟩)⟩)⟩)⟩)⟩)⟩)⟩)⟩)⟩)⟩)⟩)⟩)⟩)⟩)⟩)⟩)⟩)⟩)⟩)⟩)⟩)⟩)⟩)⟩)⟩)
set_option maxRecDepth 20000 in
theorem kb_236_1 : ∀ q ∈ tb_236_1, s_atx 236 yX12_leads cX12_leads q.1 q.2 := (List.forall_mem_cons.mpr ⟨⟨s_ldAn dX12_leads_64 rfl, s_mo_ldA _ _⟩, (List.forall_mem_cons.mpr ⟨⟨s_ldI dX12_leads_65, s_mo_ldI _ _⟩, (List.forall_mem_cons.mpr ⟨⟨s_iconst dX12_leads_67 (by decide +kernel), s_mo_push _ _⟩, (List.forall_mem_cons.mpr ⟨⟨s_ldI dX12_leads_68, s_mo_ldI _ _⟩, (List.forall_mem_cons.mpr ⟨⟨s_sV mk_236 mk_159 ok_159 (by decide +kernel) dX12_leads_70 w_1217 w_1219 wp_24 (Or.inr ⟨8, _, _, rfl, rfl⟩), s_h0 mk_236⟩, (List.forall_mem_cons.mpr ⟨⟨s_ldI dX12_leads_73, s_mo_ldI _ _⟩, (List.forall_mem_cons.mpr ⟨s_r2 mk_236 dX12_leads_75, (fun _ h => absurd h List.not_mem_nil)⟩)⟩)⟩)⟩)⟩)⟩)⟩)
theorem km_236 : ∀ t ∈ tm_236, s_tok 236 t := (List.forall_mem_cons.mpr ⟨s_lift mk_236 kb_236_0, (List.forall_mem_cons.mpr ⟨s_lift mk_236 kb_236_1, (fun _ h => absurd h List.not_mem_nil)⟩)⟩)
theorem dX12_strengthen_0 : decode cX12_strengthen 0 = .ok (.aload_n 0, 1) := by decide +kernel
theorem dX12_strengthen_1 : decode cX12_strengthen 1 = .ok (.iconst 0, 1) := by decide +kernel
theorem dX12_strengthen_2 : decode cX12_strengthen 2 = .ok (.putfield 3, 3) := by decide +kernel
theorem dX12_strengthen_5 : decode cX12_strengthen 5 = .ok (.aload_n 0, 1) := by decide +kernel
theorem dX12_strengthen_6 : decode cX12_strengthen 6 = .ok (.aload_n 0, 1) := by decide +kernel
theorem dX12_strengthen_7 : decode cX12_strengthen 7 = .ok (.iload_n 1, 1) := by decide +kernel
theorem dX12_strengthen_8 : decode cX12_strengthen 8 = .ok (.invokevirtual 264, 3) := by decide +kernel
theorem dX12_strengthen_11 : decode cX12_strengthen 11 = .ok (.ifCond .ne 18, 3) := by decide +kernel
theorem dX12_strengthen_14 : decode cX12_strengthen 14 = .ok (.aload_n 0, 1) := by decide +kernel
theorem dX12_strengthen_15 : decode cX12_strengthen 15 = .ok (.iload_n 2, 1) := by decide +kernel
theorem dX12_strengthen_16 : decode cX12_strengthen 16 = .ok (.invokevirtual 264, 3) := by decide +kernel
theorem dX12_strengthen_19 : decode cX12_strengthen 19 = .ok (.ifCond .ne 10, 3) := by decide +kernel
theorem dX12_strengthen_22 : decode cX12_strengthen 22 = .ok (.iload_n 3, 1) := by decide +kernel
theorem dX12_strengthen_23 : decode cX12_strengthen 23 = .ok (.invokestatic 270, 3) := by decide +kernel
theorem dX12_strengthen_26 : decode cX12_strengthen 26 = .ok (.ifCond .eq 7, 3) := by decide +kernel
theorem dX12_strengthen_29 : decode cX12_strengthen 29 = .ok (.iconst 1, 1) := by decide +kernel
theorem dX12_strengthen_30 : decode cX12_strengthen 30 = .ok (.goto 4, 3) := by decide +kernel
theorem dX12_strengthen_33 : decode cX12_strengthen 33 = .ok (.iconst 0, 1) := by decide +kernel
theorem dX12_strengthen_34 : decode cX12_strengthen 34 = .ok (.iconst 1, 1) := by decide +kernel
theorem dX12_strengthen_35 : decode cX12_strengthen 35 = .ok (.invokevirtual 234, 3) := by decide +kernel
theorem dX12_strengthen_38 : decode cX12_strengthen 38 = .ok (.ifCond .ne 28, 3) := by decide +kernel
theorem dX12_strengthen_41 : decode cX12_strengthen 41 = .ok (.aload_n 0, 1) := by decide +kernel
theorem dX12_strengthen_42 : decode cX12_strengthen 42 = .ok (.iload 4, 2) := by decide +kernel
theorem dX12_strengthen_44 : decode cX12_strengthen 44 = .ok (.iconst 0, 1) := by decide +kernel
theorem dX12_strengthen_45 : decode cX12_strengthen 45 = .ok (.sipush 999, 3) := by decide +kernel
theorem dX12_strengthen_48 : decode cX12_strengthen 48 = .ok (.invokestatic 84, 3) := by decide +kernel
theorem dX12_strengthen_51 : decode cX12_strengthen 51 = .ok (.ifCond .ne 7, 3) := by decide +kernel
theorem dX12_strengthen_54 : decode cX12_strengthen 54 = .ok (.iconst 1, 1) := by decide +kernel
theorem dX12_strengthen_55 : decode cX12_strengthen 55 = .ok (.goto 4, 3) := by decide +kernel
theorem dX12_strengthen_58 : decode cX12_strengthen 58 = .ok (.iconst 0, 1) := by decide +kernel
theorem dX12_strengthen_59 : decode cX12_strengthen 59 = .ok (.iconst 2, 1) := by decide +kernel
theorem dX12_strengthen_60 : decode cX12_strengthen 60 = .ok (.invokevirtual 234, 3) := by decide +kernel
theorem dX12_strengthen_63 : decode cX12_strengthen 63 = .ok (.ifCond .eq 5, 3) := by decide +kernel
theorem dX12_strengthen_66 : decode cX12_strengthen 66 = .ok (.iconst 0, 1) := by decide +kernel
theorem dX12_strengthen_67 : decode cX12_strengthen 67 = .ok (.ireturn, 1) := by decide +kernel
theorem dX12_strengthen_68 : decode cX12_strengthen 68 = .ok (.aload_n 0, 1) := by decide +kernel
theorem dX12_strengthen_69 : decode cX12_strengthen 69 = .ok (.iload_n 1, 1) := by decide +kernel
theorem dX12_strengthen_70 : decode cX12_strengthen 70 = .ok (.iload_n 2, 1) := by decide +kernel
theorem dX12_strengthen_71 : decode cX12_strengthen 71 = .ok (.iload_n 3, 1) := by decide +kernel
theorem dX12_strengthen_72 : decode cX12_strengthen 72 = .ok (.iload 4, 2) := by decide +kernel
theorem dX12_strengthen_74 : decode cX12_strengthen 74 = .ok (.invokevirtual 340, 3) := by decide +kernel
theorem dX12_strengthen_77 : decode cX12_strengthen 77 = .ok (.ifCond .lt 5, 3) := by decide +kernel
theorem dX12_strengthen_80 : decode cX12_strengthen 80 = .ok (.iconst 0, 1) := by decide +kernel
theorem dX12_strengthen_81 : decode cX12_strengthen 81 = .ok (.ireturn, 1) := by decide +kernel
theorem dX12_strengthen_82 : decode cX12_strengthen 82 = .ok (.iconst 0, 1) := by decide +kernel
theorem dX12_strengthen_83 : decode cX12_strengthen 83 = .ok (.istore 5, 2) := by decide +kernel
theorem dX12_strengthen_85 : decode cX12_strengthen 85 = .ok (.iload 5, 2) := by decide +kernel
theorem dX12_strengthen_87 : decode cX12_strengthen 87 = .ok (.aload_n 0, 1) := by decide +kernel
theorem dX12_strengthen_88 : decode cX12_strengthen 88 = .ok (.invokevirtual 80, 3) := by decide +kernel
theorem dX12_strengthen_91 : decode cX12_strengthen 91 = .ok (.if_icmp .ge 30, 3) := by decide +kernel
theorem dX12_strengthen_94 : decode cX12_strengthen 94 = .ok (.aload_n 0, 1) := by decide +kernel
theorem dX12_strengthen_95 : decode cX12_strengthen 95 = .ok (.iload_n 1, 1) := by decide +kernel
theorem dX12_strengthen_96 : decode cX12_strengthen 96 = .ok (.iload_n 2, 1) := by decide +kernel
theorem dX12_strengthen_97 : decode cX12_strengthen 97 = .ok (.iload_n 3, 1) := by decide +kernel
theorem dX12_strengthen_98 : decode cX12_strengthen 98 = .ok (.iload 4, 2) := by decide +kernel
theorem dX12_strengthen_100 : decode cX12_strengthen 100 = .ok (.iload 5, 2) := by decide +kernel
theorem dX12_strengthen_102 : decode cX12_strengthen 102 = .ok (.iload 5, 2) := by decide +kernel
theorem dX12_strengthen_104 : decode cX12_strengthen 104 = .ok (.invokevirtual 343, 3) := by decide +kernel
theorem dX12_strengthen_107 : decode cX12_strengthen 107 = .ok (.ifCond .eq 8, 3) := by decide +kernel
theorem dX12_strengthen_110 : decode cX12_strengthen 110 = .ok (.iconst 1, 1) := by decide +kernel
theorem dX12_strengthen_111 : decode cX12_strengthen 111 = .ok (.iload 5, 2) := by decide +kernel
theorem dX12_strengthen_113 : decode cX12_strengthen 113 = .ok (.ishl, 1) := by decide +kernel
theorem dX12_strengthen_114 : decode cX12_strengthen 114 = .ok (.ireturn, 1) := by decide +kernel
theorem dX12_strengthen_115 : decode cX12_strengthen 115 = .ok (.iinc 5 1, 3) := by decide +kernel
theorem dX12_strengthen_118 : decode cX12_strengthen 118 = .ok (.goto (-33), 3) := by decide +kernel
theorem dX12_strengthen_121 : decode cX12_strengthen 121 = .ok (.iconst 1, 1) := by decide +kernel
theorem dX12_strengthen_122 : decode cX12_strengthen 122 = .ok (.istore 5, 2) := by decide +kernel
theorem dX12_strengthen_124 : decode cX12_strengthen 124 = .ok (.iload 5, 2) := by decide +kernel
theorem dX12_strengthen_126 : decode cX12_strengthen 126 = .ok (.aload_n 0, 1) := by decide +kernel
theorem dX12_strengthen_127 : decode cX12_strengthen 127 = .ok (.invokevirtual 80, 3) := by decide +kernel
theorem dX12_strengthen_130 : decode cX12_strengthen 130 = .ok (.if_icmp .ge 51, 3) := by decide +kernel
theorem dX12_strengthen_133 : decode cX12_strengthen 133 = .ok (.iconst 0, 1) := by decide +kernel
theorem dX12_strengthen_134 : decode cX12_strengthen 134 = .ok (.istore 6, 2) := by decide +kernel
theorem dX12_strengthen_136 : decode cX12_strengthen 136 = .ok (.iload 6, 2) := by decide +kernel
theorem dX12_strengthen_138 : decode cX12_strengthen 138 = .ok (.iload 5, 2) := by decide +kernel
theorem dX12_strengthen_140 : decode cX12_strengthen 140 = .ok (.if_icmp .ge 35, 3) := by decide +kernel
theorem dX12_strengthen_143 : decode cX12_strengthen 143 = .ok (.aload_n 0, 1) := by decide +kernel
theorem dX12_strengthen_144 : decode cX12_strengthen 144 = .ok (.iload_n 1, 1) := by decide +kernel
theorem dX12_strengthen_145 : decode cX12_strengthen 145 = .ok (.iload_n 2, 1) := by decide +kernel
theorem dX12_strengthen_146 : decode cX12_strengthen 146 = .ok (.iload_n 3, 1) := by decide +kernel
theorem dX12_strengthen_147 : decode cX12_strengthen 147 = .ok (.iload 4, 2) := by decide +kernel
theorem dX12_strengthen_149 : decode cX12_strengthen 149 = .ok (.iload 5, 2) := by decide +kernel
theorem dX12_strengthen_151 : decode cX12_strengthen 151 = .ok (.iload 6, 2) := by decide +kernel
theorem dX12_strengthen_153 : decode cX12_strengthen 153 = .ok (.invokevirtual 343, 3) := by decide +kernel
theorem dX12_strengthen_156 : decode cX12_strengthen 156 = .ok (.ifCond .eq 13, 3) := by decide +kernel
theorem dX12_strengthen_159 : decode cX12_strengthen 159 = .ok (.iconst 1, 1) := by decide +kernel
theorem dX12_strengthen_160 : decode cX12_strengthen 160 = .ok (.iload 5, 2) := by decide +kernel
theorem dX12_strengthen_162 : decode cX12_strengthen 162 = .ok (.ishl, 1) := by decide +kernel
theorem dX12_strengthen_163 : decode cX12_strengthen 163 = .ok (.iconst 1, 1) := by decide +kernel
theorem dX12_strengthen_164 : decode cX12_strengthen 164 = .ok (.iload 6, 2) := by decide +kernel
theorem dX12_strengthen_166 : decode cX12_strengthen 166 = .ok (.ishl, 1) := by decide +kernel
theorem dX12_strengthen_167 : decode cX12_strengthen 167 = .ok (.ior, 1) := by decide +kernel
theorem dX12_strengthen_168 : decode cX12_strengthen 168 = .ok (.ireturn, 1) := by decide +kernel
theorem dX12_strengthen_169 : decode cX12_strengthen 169 = .ok (.iinc 6 1, 3) := by decide +kernel
theorem dX12_strengthen_172 : decode cX12_strengthen 172 = .ok (.goto (-36), 3) := by decide +kernel
theorem dX12_strengthen_175 : decode cX12_strengthen 175 = .ok (.iinc 5 1, 3) := by decide +kernel
theorem dX12_strengthen_178 : decode cX12_strengthen 178 = .ok (.goto (-54), 3) := by decide +kernel
theorem dX12_strengthen_181 : decode cX12_strengthen 181 = .ok (.iconst (-1), 1) := by decide +kernel
theorem dX12_strengthen_182 : decode cX12_strengthen 182 = .ok (.ireturn, 1) := by decide +kernel
set_option maxRecDepth 20000 in
theorem kb_237_0 : ∀ q ∈ tb_237_0, s_atx 237 yX12_strengthen cX12_strengthen q.1 q.2 := (List.forall_mem_cons.mpr ⟨⟨s_ldAn dX12_strengthen_0 rfl, s_mo_ldA _ _⟩, (List.forall_mem_cons.mpr ⟨⟨s_iconst dX12_strengthen_1 (by decide +kernel), s_mo_push _ _⟩, (List.forall_mem_cons.mpr ⟨⟨s_putI (ci := 8) (k := 0) rfl (by decide) inX12 tyX12_ok nmX12 rfl rfl w_1221 dX12_strengthen_2, s_mo_putI _ _ _⟩, (List.forall_mem_cons.mpr ⟨⟨s_ldAn dX12_strengthen_5 rfl, s_mo_ldA _ _⟩, (List.forall_mem_cons.mpr ⟨⟨s_ldAn dX12_strengthen_6 rfl, s_mo_ldA _ _⟩, (List.forall_mem_cons.mpr ⟨⟨s_ldIn dX12_strengthen_7 rfl, s_mo_ldI _ _⟩, (List.forall_mem_cons.mpr ⟨⟨s_sV mk_237 mk_160 ok_160 (by decide +kernel) dX12_strengthen_8 w_1450 w_1452 wp_48 (Or.inr ⟨8, _, _, rfl, rfl⟩), s_h0 mk_237⟩, (List.forall_mem_cons.mpr ⟨⟨s_ifne dX12_strengthen_11 (by decide), s_mo_ifne _ _⟩, (List.forall_mem_cons.mpr ⟨⟨s_ldAn dX12_strengthen_14 rfl, s_mo_ldA _ _⟩, (List.forall_mem_cons.mpr ⟨⟨s_ldIn dX12_strengthen_15 rfl, s_mo_ldI _ _⟩, (List.forall_mem_cons.mpr ⟨⟨s_sV mk_237 mk_160 ok_160 (by decide +kernel) dX12_strengthen_16 w_1450 w_1452 wp_48 (Or.inr ⟨8, _, _, rfl, rfl⟩), s_h0 mk_237⟩, (List.forall_mem_cons.mpr ⟨⟨s_ifne dX12_strengthen_19 (by decide), s_mo_ifne _ _⟩, (List.forall_mem_cons.mpr ⟨⟨s_ldIn dX12_strengthen_22 rfl, s_mo_ldI _ _⟩, (List.forall_mem_cons.mpr ⟨⟨s_sS mk_237 mk_161 ok_161 (by decide +kernel) dX12_strengthen_23 w_1503 w_1504, s_h0 mk_237⟩, (List.forall_mem_cons.mpr ⟨⟨s_ifeq dX12_strengthen_26 (by decide), s_mo_ifeq _ _⟩, (List.forall_mem_cons.mpr ⟨⟨s_iconst dX12_strengthen_29 (by decide +kernel), s_mo_push _ _⟩, (List.forall_mem_cons.mpr ⟨⟨s_goto dX12_strengthen_30 (by decide), s_mo_goto _⟩, (List.forall_mem_cons.mpr ⟨⟨s_iconst dX12_strengthen_33 (by decide +kernel), s_mo_push _ _⟩, (List.forall_mem_cons.mpr ⟨⟨s_iconst dX12_strengthen_34 (by decide +kernel), s_mo_push _ _⟩, (List.forall_mem_cons.mpr ⟨⟨s_sV mk_237 mk_149 ok_149 (by decide +kernel) dX12_strengthen_35 w_1438 w_1440 wp_47 (Or.inr ⟨8, _, _, rfl, rfl⟩), s_h0 mk_237⟩, (List.forall_mem_cons.mpr ⟨⟨s_ifne dX12_strengthen_38 (by decide), s_mo_ifne _ _⟩, (List.forall_mem_cons.mpr ⟨⟨s_ldAn dX12_strengthen_41 rfl, s_mo_ldA _ _⟩, (List.forall_mem_cons.mpr ⟨⟨s_ldI dX12_strengthen_42, s_mo_ldI _ _⟩, (List.forall_mem_cons.mpr ⟨⟨s_iconst dX12_strengthen_44 (by decide +kernel), s_mo_push _ _⟩, (List.forall_mem_cons.mpr ⟨⟨s_sipush dX12_strengthen_45 (by decide +kernel), s_mo_push _ _⟩, (List.forall_mem_cons.mpr ⟨⟨s_sS mk_237 mk_150 ok_150 (by decide +kernel) dX12_strengthen_48 w_1458 w_1459, s_h0 mk_237⟩, (List.forall_mem_cons.mpr ⟨⟨s_ifne dX12_strengthen_51 (by decide), s_mo_ifne _ _⟩, (List.forall_mem_cons.mpr ⟨⟨s_iconst dX12_strengthen_54 (by decide +kernel), s_mo_push _ _⟩, (List.forall_mem_cons.mpr ⟨⟨s_goto dX12_strengthen_55 (by decide), s_mo_goto _⟩, (List.forall_mem_cons.mpr ⟨⟨s_iconst dX12_strengthen_58 (by decide +kernel), s_mo_push _ _⟩, (List.forall_mem_cons.mpr ⟨⟨s_iconst dX12_strengthen_59 (by decide +kernel), s_mo_push _ _⟩, (List.forall_mem_cons.mpr ⟨⟨s_sV mk_237 mk_149 ok_149 (by decide +kernel) dX12_strengthen_60 w_1438 w_1440 wp_47 (Or.inr ⟨8, _, _, rfl, rfl⟩), s_h0 mk_237⟩, (List.forall_mem_cons.mpr ⟨⟨s_ifeq dX12_strengthen_63 (by decide), s_mo_ifeq _ _⟩, (fun _ h => absurd h List.not_mem_nil)⟩)⟩)⟩)⟩)⟩)⟩)⟩)⟩)⟩)⟩)⟩)⟩)⟩)⟩)⟩)⟩)⟩)⟩)⟩)⟩)⟩)⟩)⟩)⟩)⟩)⟩)⟩)⟩)⟩)⟩)⟩)⟩)⟩)
set_option maxRecDepth 20000 in
theorem kb_237_1 : ∀ q ∈ tb_237_1, s_atx 237 yX12_strengthen cX12_strengthen q.1 q.2 := (List.forall_mem_cons.mpr ⟨⟨s_iconst dX12_strengthen_66 (by decide +kernel), s_mo_push _ _⟩, (List.forall_mem_cons.mpr ⟨s_r1 mk_237 dX12_strengthen_67, (List.forall_mem_cons.mpr ⟨⟨s_ldAn dX12_strengthen_68 rfl, s_mo_ldA _ _⟩, (List.forall_mem_cons.mpr ⟨⟨s_ldIn dX12_strengthen_69 rfl, s_mo_ldI _ _⟩, (List.forall_mem_cons.mpr ⟨⟨s_ldIn dX12_strengthen_70 rfl, s_mo_ldI _ _⟩, (List.forall_mem_cons.mpr ⟨⟨s_ldIn dX12_strengthen_71 rfl, s_mo_ldI _ _⟩, (List.forall_mem_cons.mpr ⟨⟨s_ldI dX12_strengthen_72, s_mo_ldI _ _⟩, (List.forall_mem_cons.mpr ⟨⟨s_sV mk_237 mk_232 ok_232 (by decide +kernel) dX12_strengthen_74 w_1641 w_1643 wp_71 (Or.inr ⟨8, _, _, rfl, rfl⟩), s_h0 mk_237⟩, (List.forall_mem_cons.mpr ⟨⟨s_iflt dX12_strengthen_77 (by decide), s_mo_iflt _ _⟩, (List.forall_mem_cons.mpr ⟨⟨s_iconst dX12_strengthen_80 (by decide +kernel), s_mo_push _ _⟩, (List.forall_mem_cons.mpr ⟨s_r1 mk_237 dX12_strengthen_81, (List.forall_mem_cons.mpr ⟨⟨s_iconst dX12_strengthen_82 (by decide +kernel), s_mo_push _ _⟩, (List.forall_mem_cons.mpr ⟨⟨s_stI dX12_strengthen_83, s_mo_stI _ _⟩, (List.forall_mem_cons.mpr ⟨⟨s_ldI dX12_strengthen_85, s_mo_ldI _ _⟩, (List.forall_mem_cons.mpr ⟨⟨s_ldAn dX12_strengthen_87 rfl, s_mo_ldA _ _⟩, (List.forall_mem_cons.mpr ⟨⟨s_sV mk_237 mk_156 ok_156 (by decide +kernel) dX12_strengthen_88 w_1454 w_1456 wp_49 (Or.inr ⟨8, _, _, rfl, rfl⟩), s_h0 mk_237⟩, (List.forall_mem_cons.mpr ⟨⟨s_icge dX12_strengthen_91 (by decide), s_mo_icge _ _⟩, (List.forall_mem_cons.mpr ⟨⟨s_ldAn dX12_strengthen_94 rfl, s_mo_ldA _ _⟩, (List.forall_mem_cons.mpr ⟨⟨s_ldIn dX12_strengthen_95 rfl, s_mo_ldI _ _⟩, (List.forall_mem_cons.mpr ⟨⟨s_ldIn dX12_strengthen_96 rfl, s_mo_ldI _ _⟩, (List.forall_mem_cons.mpr ⟨⟨s_ldIn dX12_strengthen_97 rfl, s_mo_ldI _ _⟩, (List.forall_mem_cons.mpr ⟨⟨s_ldI dX12_strengthen_98, s_mo_ldI _ _⟩, (List.forall_mem_cons.mpr ⟨⟨s_ldI dX12_strengthen_100, s_mo_ldI _ _⟩, (List.forall_mem_cons.mpr ⟨⟨s_ldI dX12_strengthen_102, s_mo_ldI _ _⟩, (List.forall_mem_cons.mpr ⟨⟨s_sV mk_237 mk_236 ok_236 (by decide +kernel) dX12_strengthen_104 w_1665 w_1667 wp_74 (Or.inr ⟨8, _, _, rfl, rfl⟩), s_h0 mk_237⟩, (List.forall_mem_cons.mpr ⟨⟨s_ifeq dX12_strengthen_107 (by decide), s_mo_ifeq _ _⟩, (List.forall_mem_cons.mpr ⟨⟨s_iconst dX12_strengthen_110 (by decide +kernel), s_mo_push _ _⟩, (List.forall_mem_cons.mpr ⟨⟨s_ldI dX12_strengthen_111, s_mo_ldI _ _⟩, (List.forall_mem_cons.mpr ⟨⟨s_ishl dX12_strengthen_113, s_mo_bin _ _⟩, (List.forall_mem_cons.mpr ⟨s_r1 mk_237 dX12_strengthen_114, (List.forall_mem_cons.mpr ⟨⟨s_inc dX12_strengthen_115 (by decide +kernel), s_mo_inc _ _ _⟩, (List.forall_mem_cons.mpr ⟨⟨s_goto dX12_strengthen_118 (by decide), s_mo_goto _⟩, (List.forall_mem_cons.mpr ⟨⟨s_iconst dX12_strengthen_121 (by decide +kernel), s_mo_push _ _⟩, (List.forall_mem_cons.mpr ⟨⟨s_stI dX12_strengthen_122, s_mo_stI _ _⟩, (List.forall_mem_cons.mpr ⟨⟨s_ldI dX12_strengthen_124, s_mo_ldI _ _⟩, (List.forall_mem_cons.mpr ⟨⟨s_ldAn dX12_strengthen_126 rfl, s_mo_ldA _ _⟩, (List.forall_mem_cons.mpr ⟨⟨s_sV mk_237 mk_156 ok_156 (by decide +kernel) dX12_strengthen_127 w_1454 w_1456 wp_49 (Or.inr ⟨8, _, _, rfl, rfl⟩), s_h0 mk_237⟩, (fun _ h => absurd h List.not_mem_nil)⟩)⟩)⟩)⟩)⟩)⟩)⟩)⟩)⟩)⟩)⟩)⟩)⟩)⟩)⟩)⟩)⟩)⟩)⟩)⟩)⟩)⟩)⟩)⟩)⟩)⟩)⟩)⟩)⟩)⟩)⟩)⟩)⟩)⟩)⟩)⟩)⟩)
set_option maxRecDepth 20000 in
theorem kb_237_2 : ∀ q ∈ tb_237_2, s_atx 237 yX12_strengthen cX12_strengthen q.1 q.2 := (List.forall_mem_cons.mpr ⟨⟨s_icge dX12_strengthen_130 (by decide), s_mo_icge _ _⟩, (List.forall_mem_cons.mpr ⟨⟨s_iconst dX12_strengthen_133 (by decide +kernel), s_mo_push _ _⟩, (List.forall_mem_cons.mpr ⟨⟨s_stI dX12_strengthen_134, s_mo_stI _ _⟩, (List.forall_mem_cons.mpr ⟨⟨s_ldI dX12_strengthen_136, s_mo_ldI _ _⟩, (List.forall_mem_cons.mpr ⟨⟨s_ldI dX12_strengthen_138, s_mo_ldI _ _⟩, (List.forall_mem_cons.mpr ⟨⟨s_icge dX12_strengthen_140 (by decide), s_mo_icge _ _⟩, (List.forall_mem_cons.mpr ⟨⟨s_ldAn dX12_strengthen_143 rfl, s_mo_ldA _ _⟩, (List.forall_mem_cons.mpr ⟨⟨s_ldIn dX12_strengthen_144 rfl, s_mo_ldI _ _⟩, (List.forall_mem_cons.mpr ⟨⟨s_ldIn dX12_strengthen_145 rfl, s_mo_ldI _ _⟩, (List.forall_mem_cons.mpr ⟨⟨s_ldIn dX12_strengthen_146 rfl, s_mo_ldI _ _⟩, (List.forall_mem_cons.mpr ⟨⟨s_ldI dX12_strengthen_147, s_mo_ldI _ _⟩, (List.forall_mem_cons.mpr ⟨⟨s_ldI dX12_strengthen_149, s_mo_ldI _ _⟩, (List.forall_mem_cons.mpr ⟨⟨s_ldI dX12_strengthen_151, s_mo_ldI _ _⟩, (List.forall_mem_cons.mpr ⟨⟨s_sV mk_237 mk_236 ok_236 (by decide +kernel) dX12_strengthen_153 w_1665 w_1667 wp_74 (Or.inr ⟨8, _, _, rfl, rfl⟩), s_h0 mk_237⟩, (List.forall_mem_cons.mpr ⟨⟨s_ifeq dX12_strengthen_156 (by decide), s_mo_ifeq _ _⟩, (List.forall_mem_cons.mpr ⟨⟨s_iconst dX12_strengthen_159 (by decide +kernel), s_mo_push _ _⟩, (List.forall_mem_cons.mpr ⟨⟨s_ldI dX12_strengthen_160, s_mo_ldI _ _⟩, (List.forall_mem_cons.mpr ⟨⟨s_ishl dX12_strengthen_162, s_mo_bin _ _⟩, (List.forall_mem_cons.mpr ⟨⟨s_iconst dX12_strengthen_163 (by decide +kernel), s_mo_push _ _⟩, (List.forall_mem_cons.mpr ⟨⟨s_ldI dX12_strengthen_164, s_mo_ldI _ _⟩, (List.forall_mem_cons.mpr ⟨⟨s_ishl dX12_strengthen_166, s_mo_bin _ _⟩, (List.forall_mem_cons.mpr ⟨⟨s_ior dX12_strengthen_167, s_mo_bin _ _⟩, (List.forall_mem_cons.mpr ⟨s_r1 mk_237 dX12_strengthen_168, (List.forall_mem_cons.mpr ⟨⟨s_inc dX12_strengthen_169 (by decide +kernel), s_mo_inc _ _ _⟩, (List.forall_mem_cons.mpr ⟨⟨s_goto dX12_strengthen_172 (by decide), s_mo_goto _⟩, (List.forall_mem_cons.mpr ⟨⟨s_inc dX12_strengthen_175 (by decide +kernel), s_mo_inc _ _ _⟩, (List.forall_mem_cons.mpr ⟨⟨s_goto dX12_strengthen_178 (by decide), s_mo_goto _⟩, (List.forall_mem_cons.mpr ⟨⟨s_iconst dX12_strengthen_181 (by decide +kernel), s_mo_push _ _⟩, (List.forall_mem_cons.mpr ⟨s_r1 mk_237 dX12_strengthen_182, (fun _ h => absurd h List.not_mem_nil)⟩)⟩)⟩)⟩)⟩)⟩)⟩)⟩)⟩)⟩)⟩)⟩)⟩)⟩)⟩)⟩)⟩)⟩)⟩)⟩)⟩)⟩)⟩)⟩)⟩)⟩)⟩)⟩)⟩)
theorem km_237 : ∀ t ∈ tm_237, s_tok 237 t := (List.forall_mem_cons.mpr ⟨s_lift mk_237 kb_237_0, (List.forall_mem_cons.mpr ⟨s_lift mk_237 kb_237_1, (List.forall_mem_cons.mpr ⟨s_lift mk_237 kb_237_2, (fun _ h => absurd h List.not_mem_nil)⟩)⟩)⟩)
theorem dX12_chance_0 : decode cX12_chance 0 = .ok (.bipush 100, 2) := by decide +kernel
theorem dX12_chance_2 : decode cX12_chance 2 = .ok (.iconst 0, 1) := by decide +kernel
theorem dX12_chance_3 : decode cX12_chance 3 = .ok (.bipush (-3), 2) := by decide +kernel
theorem dX12_chance_5 : decode cX12_chance 5 = .ok (.aload_n 0, 1) := by decide +kernel
theorem dX12_chance_6 : decode cX12_chance 6 = .ok (.iload_n 1, 1) := by decide +kernel
theorem dX12_chance_7 : decode cX12_chance 7 = .ok (.iconst 1, 1) := by decide +kernel
theorem dX12_chance_8 : decode cX12_chance 8 = .ok (.invokevirtual 88, 3) := by decide +kernel
theorem dX12_chance_11 : decode cX12_chance 11 = .ok (.imul, 1) := by decide +kernel
theorem dX12_chance_12 : decode cX12_chance 12 = .ok (.aload_n 0, 1) := by decide +kernel
theorem dX12_chance_13 : decode cX12_chance 13 = .ok (.iload_n 1, 1) := by decide +kernel
theorem dX12_chance_14 : decode cX12_chance 14 = .ok (.iconst 0, 1) := by decide +kernel
theorem dX12_chance_15 : decode cX12_chance 15 = .ok (.invokevirtual 88, 3) := by decide +kernel
theorem dX12_chance_18 : decode cX12_chance 18 = .ok (.isub, 1) := by decide +kernel
theorem dX12_chance_19 : decode cX12_chance 19 = .ok (.invokestatic 249, 3) := by decide +kernel
theorem dX12_chance_22 : decode cX12_chance 22 = .ok (.invokestatic 246, 3) := by decide +kernel
theorem dX12_chance_25 : decode cX12_chance 25 = .ok (.ireturn, 1) := by decide +kernel
set_option maxRecDepth 20000 in
theorem kb_238_0 : ∀ q ∈ tb_238_0, s_atx 238 yX12_chance cX12_chance q.1 q.2 := (List.forall_mem_cons.mpr ⟨⟨s_bipush dX12_chance_0 (by decide +kernel), s_mo_push _ _⟩, (List.forall_mem_cons.mpr ⟨⟨s_iconst dX12_chance_2 (by decide +kernel), s_mo_push _ _⟩, (List.forall_mem_cons.mpr ⟨⟨s_bipush dX12_chance_3 (by decide +kernel), s_mo_push _ _⟩, (List.forall_mem_cons.mpr ⟨⟨s_ldAn dX12_chance_5 rfl, s_mo_ldA _ _⟩, (List.forall_mem_cons.mpr ⟨⟨s_ldIn dX12_chance_6 rfl, s_mo_ldI _ _⟩, (List.forall_mem_cons.mpr ⟨⟨s_iconst dX12_chance_7 (by decide +kernel), s_mo_push _ _⟩, (List.forall_mem_cons.mpr ⟨⟨s_sV mk_238 mk_158 ok_158 (by decide +kernel) dX12_chance_8 w_1469 w_1471 wp_52 (Or.inr ⟨8, _, _, rfl, rfl⟩), s_h0 mk_238⟩, (List.forall_mem_cons.mpr ⟨⟨s_imul dX12_chance_11, s_mo_bin _ _⟩, (List.forall_mem_cons.mpr ⟨⟨s_ldAn dX12_chance_12 rfl, s_mo_ldA _ _⟩, (List.forall_mem_cons.mpr ⟨⟨s_ldIn dX12_chance_13 rfl, s_mo_ldI _ _⟩, (List.forall_mem_cons.mpr ⟨⟨s_iconst dX12_chance_14 (by decide +kernel), s_mo_push _ _⟩, (List.forall_mem_cons.mpr ⟨⟨s_sV mk_238 mk_158 ok_158 (by decide +kernel) dX12_chance_15 w_1469 w_1471 wp_52 (Or.inr ⟨8, _, _, rfl, rfl⟩), s_h0 mk_238⟩, (List.forall_mem_cons.mpr ⟨⟨s_isub dX12_chance_18, s_mo_bin _ _⟩, (List.forall_mem_cons.mpr ⟨⟨s_mx w_1474 ws_mx w_mi wc_mx dX12_chance_19, s_mo_mx _⟩, (List.forall_mem_cons.mpr ⟨⟨s_mn w_1473 ws_mn w_mi wc_mn dX12_chance_22, s_mo_mn _⟩, (List.forall_mem_cons.mpr ⟨s_r1 mk_238 dX12_chance_25, (fun _ h => absurd h List.not_mem_nil)⟩)⟩)⟩)⟩)⟩)⟩)⟩)⟩)⟩)⟩)⟩)⟩)⟩)⟩)⟩)⟩)
theorem km_238 : ∀ t ∈ tm_238, s_tok 238 t := (List.forall_mem_cons.mpr ⟨s_lift mk_238 kb_238_0, (fun _ h => absurd h List.not_mem_nil)⟩)
theorem dX12_frost_0 : decode cX12_frost 0 = .ok (.aload_n 0, 1) := by decide +kernel
theorem dX12_frost_1 : decode cX12_frost 1 = .ok (.iconst 0, 1) := by decide +kernel
theorem dX12_frost_2 : decode cX12_frost 2 = .ok (.putfield 3, 3) := by decide +kernel
theorem dX12_frost_5 : decode cX12_frost 5 = .ok (.aload_n 0, 1) := by decide +kernel
theorem dX12_frost_6 : decode cX12_frost 6 = .ok (.iload_n 2, 1) := by decide +kernel
theorem dX12_frost_7 : decode cX12_frost 7 = .ok (.iconst 1, 1) := by decide +kernel
theorem dX12_frost_8 : decode cX12_frost 8 = .ok (.bipush 60, 2) := by decide +kernel
theorem dX12_frost_10 : decode cX12_frost 10 = .ok (.invokestatic 84, 3) := by decide +kernel
theorem dX12_frost_13 : decode cX12_frost 13 = .ok (.ifCond .ne 7, 3) := by decide +kernel
theorem dX12_frost_16 : decode cX12_frost 16 = .ok (.iconst 1, 1) := by decide +kernel
theorem dX12_frost_17 : decode cX12_frost 17 = .ok (.goto 4, 3) := by decide +kernel
theorem dX12_frost_20 : decode cX12_frost 20 = .ok (.iconst 0, 1) := by decide +kernel
theorem dX12_frost_21 : decode cX12_frost 21 = .ok (.iconst 1, 1) := by decide +kernel
theorem dX12_frost_22 : decode cX12_frost 22 = .ok (.invokevirtual 234, 3) := by decide +kernel
theorem dX12_frost_25 : decode cX12_frost 25 = .ok (.ifCond .eq 5, 3) := by decide +kernel
theorem dX12_frost_28 : decode cX12_frost 28 = .ok (.iconst 0, 1) := by decide +kernel
theorem dX12_frost_29 : decode cX12_frost 29 = .ok (.ireturn, 1) := by decide +kernel
theorem dX12_frost_30 : decode cX12_frost 30 = .ok (.aload_n 0, 1) := by decide +kernel
theorem dX12_frost_31 : decode cX12_frost 31 = .ok (.invokevirtual 267, 3) := by decide +kernel
theorem dX12_frost_34 : decode cX12_frost 34 = .ok (.iload_n 1, 1) := by decide +kernel
theorem dX12_frost_35 : decode cX12_frost 35 = .ok (.istore_n 3, 1) := by decide +kernel
theorem dX12_frost_36 : decode cX12_frost 36 = .ok (.iconst 0, 1) := by decide +kernel
theorem dX12_frost_37 : decode cX12_frost 37 = .ok (.istore 4, 2) := by decide +kernel
theorem dX12_frost_39 : decode cX12_frost 39 = .ok (.iconst 0, 1) := by decide +kernel
theorem dX12_frost_40 : decode cX12_frost 40 = .ok (.istore 5, 2) := by decide +kernel
theorem dX12_frost_42 : decode cX12_frost 42 = .ok (.iload 5, 2) := by decide +kernel
theorem dX12_frost_44 : decode cX12_frost 44 = .ok (.aload_n 0, 1) := by decide +kernel
theorem dX12_frost_45 : decode cX12_frost 45 = .ok (.invokevirtual 80, 3) := by decide +kernel
theorem dX12_frost_48 : decode cX12_frost 48 = .ok (.if_icmp .ge 115, 3) := by decide +kernel
theorem dX12_frost_51 : decode cX12_frost 51 = .ok (.ldc_w 347, 3) := by decide +kernel
theorem dX12_frost_54 : decode cX12_frost 54 = .ok (.iload_n 3, 1) := by decide +kernel
theorem dX12_frost_55 : decode cX12_frost 55 = .ok (.imul, 1) := by decide +kernel
theorem dX12_frost_56 : decode cX12_frost 56 = .ok (.sipush 12345, 3) := by decide +kernel
theorem dX12_frost_59 : decode cX12_frost 59 = .ok (.iadd, 1) := by decide +kernel
theorem dX12_frost_60 : decode cX12_frost 60 = .ok (.istore_n 3, 1) := by decide +kernel
theorem dX12_frost_61 : decode cX12_frost 61 = .ok (.aload_n 0, 1) := by decide +kernel
theorem dX12_frost_62 : decode cX12_frost 62 = .ok (.iload 5, 2) := by decide +kernel
theorem dX12_frost_64 : decode cX12_frost 64 = .ok (.iconst 1, 1) := by decide +kernel
theorem dX12_frost_65 : decode cX12_frost 65 = .ok (.bipush (-40), 2) := by decide +kernel
theorem dX12_frost_67 : decode cX12_frost 67 = .ok (.aload_n 0, 1) := by decide +kernel
theorem dX12_frost_68 : decode cX12_frost 68 = .ok (.iload 5, 2) := by decide +kernel
theorem dX12_frost_70 : decode cX12_frost 70 = .ok (.iconst 1, 1) := by decide +kernel
theorem dX12_frost_71 : decode cX12_frost 71 = .ok (.invokevirtual 88, 3) := by decide +kernel
theorem dX12_frost_74 : decode cX12_frost 74 = .ok (.iload_n 3, 1) := by decide +kernel
theorem dX12_frost_75 : decode cX12_frost 75 = .ok (.bipush 16, 2) := by decide +kernel
theorem dX12_frost_77 : decode cX12_frost 77 = .ok (.ishr, 1) := by decide +kernel
theorem dX12_frost_78 : decode cX12_frost 78 = .ok (.sipush 32767, 3) := by decide +kernel
theorem dX12_frost_81 : decode cX12_frost 81 = .ok (.iand, 1) := by decide +kernel
theorem dX12_frost_82 : decode cX12_frost 82 = .ok (.iload_n 2, 1) := by decide +kernel
theorem dX12_frost_83 : decode cX12_frost 83 = .ok (.irem, 1) := by decide +kernel
theorem dX12_frost_84 : decode cX12_frost 84 = .ok (.isub, 1) := by decide +kernel
theorem dX12_frost_85 : decode cX12_frost 85 = .ok (.invokestatic 249, 3) := by decide +kernel
theorem dX12_frost_88 : decode cX12_frost 88 = .ok (.invokevirtual 69, 3) := by decide +kernel
theorem dX12_frost_91 : decode cX12_frost 91 = .ok (.aload_n 0, 1) := by decide +kernel
theorem dX12_frost_92 : decode cX12_frost 92 = .ok (.iload 5, 2) := by decide +kernel
theorem dX12_frost_94 : decode cX12_frost 94 = .ok (.iconst 1, 1) := by decide +kernel
theorem dX12_frost_95 : decode cX12_frost 95 = .ok (.invokevirtual 88, 3) := by decide +kernel
theorem dX12_frost_98 : decode cX12_frost 98 = .ok (.ifCond .ge 59, 3) := by decide +kernel
theorem dX12_frost_101 : decode cX12_frost 101 = .ok (.aload_n 0, 1) := by decide +kernel
theorem dX12_frost_102 : decode cX12_frost 102 = .ok (.iload 5, 2) := by decide +kernel
theorem dX12_frost_104 : decode cX12_frost 104 = .ok (.invokevirtual 243, 3) := by decide +kernel
theorem dX12_frost_107 : decode cX12_frost 107 = .ok (.ifCond .eq 6, 3) := by decide +kernel
theorem dX12_frost_110 : decode cX12_frost 110 = .ok (.goto 47, 3) := by decide +kernel
theorem dX12_frost_113 : decode cX12_frost 113 = .ok (.ldc_w 347, 3) := by decide +kernel
theorem dX12_frost_116 : decode cX12_frost 116 = .ok (.iload_n 3, 1) := by decide +kernel
theorem dX12_frost_117 : decode cX12_frost 117 = .ok (.imul, 1) := by decide +kernel
theorem dX12_frost_118 : decode cX12_frost 118 = .ok (.sipush 12345, 3) := by decide +kernel
theorem dX12_frost_121 : decode cX12_frost 121 = .ok (.iadd, 1) := by decide +kernel
theorem dX12_frost_122 : decode cX12_frost 122 = .ok (.istore_n 3, 1) := by decide +kernel
theorem dX12_frost_123 : decode cX12_frost 123 = .ok (.iload_n 3, 1) := by decide +kernel
theorem dX12_frost_124 : decode cX12_frost 124 = .ok (.bipush 16, 2) := by decide +kernel
theorem dX12_frost_126 : decode cX12_frost 126 = .ok (.ishr, 1) := by decide +kernel
theorem dX12_frost_127 : decode cX12_frost 127 = .ok (.sipush 32767, 3) := by decide +kernel
theorem dX12_frost_130 : decode cX12_frost 130 = .ok (.iand, 1) := by decide +kernel
theorem dX12_frost_131 : decode cX12_frost 131 = .ok (.bipush 100, 2) := by decide +kernel
theorem dX12_frost_133 : decode cX12_frost 133 = .ok (.irem, 1) := by decide +kernel
theorem dX12_frost_134 : decode cX12_frost 134 = .ok (.aload_n 0, 1) := by decide +kernel
theorem dX12_frost_135 : decode cX12_frost 135 = .ok (.iload 5, 2) := by decide +kernel
theorem dX12_frost_137 : decode cX12_frost 137 = .ok (.invokevirtual 348, 3) := by decide +kernel
theorem dX12_frost_140 : decode cX12_frost 140 = .ok (.if_icmp .lt 6, 3) := by decide +kernel
theorem dX12_frost_143 : decode cX12_frost 143 = .ok (.goto 14, 3) := by decide +kernel
theorem dX12_frost_146 : decode cX12_frost 146 = .ok (.aload_n 0, 1) := by decide +kernel
theorem dX12_frost_147 : decode cX12_frost 147 = .ok (.iconst 1, 1) := by decide +kernel
theorem dX12_frost_148 : decode cX12_frost 148 = .ok (.iload 5, 2) := by decide +kernel
theorem dX12_frost_150 : decode cX12_frost 150 = .ok (.ishl, 1) := by decide +kernel
theorem dX12_frost_151 : decode cX12_frost 151 = .ok (.invokevirtual 323, 3) := by decide +kernel
theorem dX12_frost_154 : decode cX12_frost 154 = .ok (.iinc 4 1, 3) := by decide +kernel
theorem dX12_frost_157 : decode cX12_frost 157 = .ok (.iinc 5 1, 3) := by decide +kernel
theorem dX12_frost_160 : decode cX12_frost 160 = .ok (.goto (-118), 3) := by decide +kernel
theorem dX12_frost_163 : decode cX12_frost 163 = .ok (.iload 4, 2) := by decide +kernel
theorem dX12_frost_165 : decode cX12_frost 165 = .ok (.ireturn, 1) := by decide +kernel
set_option maxRecDepth 20000 in
theorem kb_239_0 : ∀ q ∈ tb_239_0, s_atx 239 yX12_frost cX12_frost q.1 q.2 := (List.forall_mem_cons.mpr ⟨⟨s_ldAn dX12_frost_0 rfl, s_mo_ldA _ _⟩, (List.forall_mem_cons.mpr ⟨⟨s_iconst dX12_frost_1 (by decide +kernel), s_mo_push _ _⟩, (List.forall_mem_cons.mpr ⟨⟨s_putI (ci := 8) (k := 0) rfl (by decide) inX12 tyX12_ok nmX12 rfl rfl w_1221 dX12_frost_2, s_mo_putI _ _ _⟩, (List.forall_mem_cons.mpr ⟨⟨s_ldAn dX12_frost_5 rfl, s_mo_ldA _ _⟩, (List.forall_mem_cons.mpr ⟨⟨s_ldIn dX12_frost_6 rfl, s_mo_ldI _ _⟩, (List.forall_mem_cons.mpr ⟨⟨s_iconst dX12_frost_7 (by decide +kernel), s_mo_push _ _⟩, (List.forall_mem_cons.mpr ⟨⟨s_bipush dX12_frost_8 (by decide +kernel), s_mo_push _ _⟩, (List.forall_mem_cons.mpr ⟨⟨s_sS mk_239 mk_150 ok_150 (by decide +kernel) dX12_frost_10 w_1458 w_1459, s_h0 mk_239⟩, (List.forall_mem_cons.mpr ⟨⟨s_ifne dX12_frost_13 (by decide), s_mo_ifne _ _⟩, (List.forall_mem_cons.mpr ⟨⟨s_iconst dX12_frost_16 (by decide +kernel), s_mo_push _ _⟩, (List.forall_mem_cons.mpr ⟨⟨s_goto dX12_frost_17 (by decide), s_mo_goto _⟩, (List.forall_mem_cons.mpr ⟨⟨s_iconst dX12_frost_20 (by decide +kernel), s_mo_push _ _⟩, (List.forall_mem_cons.mpr ⟨⟨s_iconst dX12_frost_21 (by decide +kernel), s_mo_push _ _⟩, (List.forall_mem_cons.mpr ⟨⟨s_sV mk_239 mk_149 ok_149 (by decide +kernel) dX12_frost_22 w_1438 w_1440 wp_47 (Or.inr ⟨8, _, _, rfl, rfl⟩), s_h0 mk_239⟩, (List.forall_mem_cons.mpr ⟨⟨s_ifeq dX12_frost_25 (by decide), s_mo_ifeq _ _⟩, (List.forall_mem_cons.mpr ⟨⟨s_iconst dX12_frost_28 (by decide +kernel), s_mo_push _ _⟩, (List.forall_mem_cons.mpr ⟨s_r1 mk_239 dX12_frost_29, (List.forall_mem_cons.mpr ⟨⟨s_ldAn dX12_frost_30 rfl, s_mo_ldA _ _⟩, (List.forall_mem_cons.mpr ⟨⟨s_sV mk_239 mk_199 ok_199 (by decide +kernel) dX12_frost_31 w_1491 w_1493 wp_54 (Or.inr ⟨8, _, _, rfl, rfl⟩), s_h0 mk_239⟩, (List.forall_mem_cons.mpr ⟨⟨s_ldIn dX12_frost_34 rfl, s_mo_ldI _ _⟩, (List.forall_mem_cons.mpr ⟨⟨s_stIn dX12_frost_35 rfl, s_mo_stI _ _⟩, (List.forall_mem_cons.mpr ⟨⟨s_iconst dX12_frost_36 (by decide +kernel), s_mo_push _ _⟩, (List.forall_mem_cons.mpr ⟨⟨s_stI dX12_frost_37, s_mo_stI _ _⟩, (List.forall_mem_cons.mpr ⟨⟨s_iconst dX12_frost_39 (by decide +kernel), s_mo_push _ _⟩, (List.forall_mem_cons.mpr ⟨⟨s_stI dX12_frost_40, s_mo_stI _ _⟩, (List.forall_mem_cons.mpr ⟨⟨s_ldI dX12_frost_42, s_mo_ldI _ _⟩, (List.forall_mem_cons.mpr ⟨⟨s_ldAn dX12_frost_44 rfl, s_mo_ldA _ _⟩, (List.forall_mem_cons.mpr ⟨⟨s_sV mk_239 mk_156 ok_156 (by decide +kernel) dX12_frost_45 w_1454 w_1456 wp_49 (Or.inr ⟨8, _, _, rfl, rfl⟩), s_h0 mk_239⟩, (List.forall_mem_cons.mpr ⟨⟨s_icge dX12_frost_48 (by decide), s_mo_icge _ _⟩, (List.forall_mem_cons.mpr ⟨⟨s_ldcw w_1673 dX12_frost_51, s_mo_push _ _⟩, (List.forall_mem_cons.mpr ⟨⟨s_ldIn dX12_frost_54 rfl, s_mo_ldI _ _⟩, (List.forall_mem_cons.mpr ⟨⟨s_imul dX12_frost_55, s_mo_bin _ _⟩, (List.forall_mem_cons.mpr ⟨⟨s_sipush dX12_frost_56 (by decide +kernel), s_mo_push _ _⟩, (List.forall_mem_cons.mpr ⟨⟨s_iadd dX12_frost_59, s_mo_bin _ _⟩, (List.forall_mem_cons.mpr ⟨⟨s_stIn dX12_frost_60 rfl, s_mo_stI _ _⟩, (List.forall_mem_cons.mpr ⟨⟨s_ldAn dX12_frost_61 rfl, s_mo_ldA _ _⟩, (List.forall_mem_cons.mpr ⟨⟨s_ldI dX12_frost_62, s_mo_ldI _ _⟩, (fun _ h => absurd h List.not_mem_nil)⟩)⟩)⟩)⟩)⟩)⟩)⟩)⟩)⟩)⟩)⟩)⟩)⟩)⟩)⟩)⟩)⟩)⟩)⟩)⟩)⟩)⟩)⟩)⟩)⟩)⟩)⟩)⟩)⟩)⟩)⟩)⟩)⟩)⟩)⟩)⟩)⟩)
set_option maxRecDepth 20000 in
theorem kb_239_1 : ∀ q ∈ tb_239_1, s_atx 239 yX12_frost cX12_frost q.1 q.2 := (List.forall_mem_cons.mpr ⟨⟨s_iconst dX12_frost_64 (by decide +kernel), s_mo_push _ _⟩, (List.forall_mem_cons.mpr ⟨⟨s_bipush dX12_frost_65 (by decide +kernel), s_mo_push _ _⟩, (List.forall_mem_cons.mpr ⟨⟨s_ldAn dX12_frost_67 rfl, s_mo_ldA _ _⟩, (List.forall_mem_cons.mpr ⟨⟨s_ldI dX12_frost_68, s_mo_ldI _ _⟩, (List.forall_mem_cons.mpr ⟨⟨s_iconst dX12_frost_70 (by decide +kernel), s_mo_push _ _⟩, (List.forall_mem_cons.mpr ⟨⟨s_sV mk_239 mk_158 ok_158 (by decide +kernel) dX12_frost_71 w_1469 w_1471 wp_52 (Or.inr ⟨8, _, _, rfl, rfl⟩), s_h0 mk_239⟩, (List.forall_mem_cons.mpr ⟨⟨s_ldIn dX12_frost_74 rfl, s_mo_ldI _ _⟩, (List.forall_mem_cons.mpr ⟨⟨s_bipush dX12_frost_75 (by decide +kernel), s_mo_push _ _⟩, (List.forall_mem_cons.mpr ⟨⟨s_ishr dX12_frost_77, s_mo_bin _ _⟩, (List.forall_mem_cons.mpr ⟨⟨s_sipush dX12_frost_78 (by decide +kernel), s_mo_push _ _⟩, (List.forall_mem_cons.mpr ⟨⟨s_iand dX12_frost_81, s_mo_bin _ _⟩, (List.forall_mem_cons.mpr ⟨⟨s_ldIn dX12_frost_82 rfl, s_mo_ldI _ _⟩, (List.forall_mem_cons.mpr ⟨⟨s_irem dX12_frost_83, s_mo_rem _⟩, (List.forall_mem_cons.mpr ⟨⟨s_isub dX12_frost_84, s_mo_bin _ _⟩, (List.forall_mem_cons.mpr ⟨⟨s_mx w_1474 ws_mx w_mi wc_mx dX12_frost_85, s_mo_mx _⟩, (List.forall_mem_cons.mpr ⟨⟨s_sV mk_239 mk_159 ok_159 (by decide +kernel) dX12_frost_88 w_1217 w_1219 wp_24 (Or.inr ⟨8, _, _, rfl, rfl⟩), s_h0 mk_239⟩, (List.forall_mem_cons.mpr ⟨⟨s_ldAn dX12_frost_91 rfl, s_mo_ldA _ _⟩, (List.forall_mem_cons.mpr ⟨⟨s_ldI dX12_frost_92, s_mo_ldI _ _⟩, (List.forall_mem_cons.mpr ⟨⟨s_iconst dX12_frost_94 (by decide +kernel), s_mo_push _ _⟩, (List.forall_mem_cons.mpr ⟨⟨s_sV mk_239 mk_158 ok_158 (by decide +kernel) dX12_frost_95 w_1469 w_1471 wp_52 (Or.inr ⟨8, _, _, rfl, rfl⟩), s_h0 mk_239⟩, (List.forall_mem_cons.mpr ⟨⟨s_ifge dX12_frost_98 (by decide), s_mo_ifge _ _⟩, (List.forall_mem_cons.mpr ⟨⟨s_ldAn dX12_frost_101 rfl, s_mo_ldA _ _⟩, (List.forall_mem_cons.mpr ⟨⟨s_ldI dX12_frost_102, s_mo_ldI _ _⟩, (List.forall_mem_cons.mpr ⟨⟨s_sV mk_239 mk_162 ok_162 (by decide +kernel) dX12_frost_104 w_1465 w_1467 wp_51 (Or.inr ⟨8, _, _, rfl, rfl⟩), s_h0 mk_239⟩, (List.forall_mem_cons.mpr ⟨⟨s_ifeq dX12_frost_107 (by decide), s_mo_ifeq _ _⟩, (List.forall_mem_cons.mpr ⟨⟨s_goto dX12_frost_110 (by decide), s_mo_goto _⟩, (List.forall_mem_cons.mpr ⟨⟨s_ldcw w_1673 dX12_frost_113, s_mo_push _ _⟩, (List.forall_mem_cons.mpr ⟨⟨s_ldIn dX12_frost_116 rfl, s_mo_ldI _ _⟩, (List.forall_mem_cons.mpr ⟨⟨s_imul dX12_frost_117, s_mo_bin _ _⟩, (List.forall_mem_cons.mpr ⟨⟨s_sipush dX12_frost_118 (by decide +kernel), s_mo_push _ _⟩, (List.forall_mem_cons.mpr ⟨⟨s_iadd dX12_frost_121, s_mo_bin _ _⟩, (List.forall_mem_cons.mpr ⟨⟨s_stIn dX12_frost_122 rfl, s_mo_stI _ _⟩, (List.forall_mem_cons.mpr ⟨⟨s_ldIn dX12_frost_123 rfl, s_mo_ldI _ _⟩, (List.forall_mem_cons.mpr ⟨⟨s_bipush dX12_frost_124 (by decide +kernel), s_mo_push _ _⟩, (List.forall_mem_cons.mpr ⟨⟨s_ishr dX12_frost_126, s_mo_bin _ _⟩, (List.forall_mem_cons.mpr ⟨⟨s_sipush dX12_frost_127 (by decide +kernel), s_mo_push _ _⟩, (fun _ h => absurd h List.not_mem_nil)⟩)⟩)⟩)⟩)⟩)⟩)⟩)⟩)⟩)⟩)⟩)⟩)⟩)⟩)⟩)⟩)⟩)⟩)⟩)⟩)⟩)⟩)⟩)⟩)⟩)⟩)⟩)⟩)⟩)⟩)⟩)⟩)⟩)⟩)⟩)⟩)
set_option maxRecDepth 20000 in
theorem kb_239_2 : ∀ q ∈ tb_239_2, s_atx 239 yX12_frost cX12_frost q.1 q.2 := (List.forall_mem_cons.mpr ⟨⟨s_iand dX12_frost_130, s_mo_bin _ _⟩, (List.forall_mem_cons.mpr ⟨⟨s_bipush dX12_frost_131 (by decide +kernel), s_mo_push _ _⟩, (List.forall_mem_cons.mpr ⟨⟨s_irem dX12_frost_133, s_mo_rem _⟩, (List.forall_mem_cons.mpr ⟨⟨s_ldAn dX12_frost_134 rfl, s_mo_ldA _ _⟩, (List.forall_mem_cons.mpr ⟨⟨s_ldI dX12_frost_135, s_mo_ldI _ _⟩, (List.forall_mem_cons.mpr ⟨⟨s_sV mk_239 mk_238 ok_238 (by decide +kernel) dX12_frost_137 w_1674 w_1676 wp_75 (Or.inr ⟨8, _, _, rfl, rfl⟩), s_h0 mk_239⟩, (List.forall_mem_cons.mpr ⟨⟨s_iclt dX12_frost_140 (by decide), s_mo_iclt _ _⟩, (List.forall_mem_cons.mpr ⟨⟨s_goto dX12_frost_143 (by decide), s_mo_goto _⟩, (List.forall_mem_cons.mpr ⟨⟨s_ldAn dX12_frost_146 rfl, s_mo_ldA _ _⟩, (List.forall_mem_cons.mpr ⟨⟨s_iconst dX12_frost_147 (by decide +kernel), s_mo_push _ _⟩, (List.forall_mem_cons.mpr ⟨⟨s_ldI dX12_frost_148, s_mo_ldI _ _⟩, (List.forall_mem_cons.mpr ⟨⟨s_ishl dX12_frost_150, s_mo_bin _ _⟩, (List.forall_mem_cons.mpr ⟨⟨s_sV mk_239 mk_226 ok_226 (by decide +kernel) dX12_frost_151 w_1624 w_1626 wp_69 (Or.inr ⟨8, _, _, rfl, rfl⟩), s_h0 mk_239⟩, (List.forall_mem_cons.mpr ⟨⟨s_inc dX12_frost_154 (by decide +kernel), s_mo_inc _ _ _⟩, (List.forall_mem_cons.mpr ⟨⟨s_inc dX12_frost_157 (by decide +kernel), s_mo_inc _ _ _⟩, (List.forall_mem_cons.mpr ⟨⟨s_goto dX12_frost_160 (by decide), s_mo_goto _⟩, (List.forall_mem_cons.mpr ⟨⟨s_ldI dX12_frost_163, s_mo_ldI _ _⟩, (List.forall_mem_cons.mpr ⟨s_r1 mk_239 dX12_frost_165, (fun _ h => absurd h List.not_mem_nil)⟩)⟩)⟩)⟩)⟩)⟩)⟩)⟩)⟩)⟩)⟩)⟩)⟩)⟩)⟩)⟩)⟩)⟩)
theorem km_239 : ∀ t ∈ tm_239, s_tok 239 t := (List.forall_mem_cons.mpr ⟨s_lift mk_239 kb_239_0, (List.forall_mem_cons.mpr ⟨s_lift mk_239 kb_239_1, (List.forall_mem_cons.mpr ⟨s_lift mk_239 kb_239_2, (fun _ h => absurd h List.not_mem_nil)⟩)⟩)⟩)
theorem dX12_odds_0 : decode cX12_odds 0 = .ok (.aload_n 0, 1) := by decide +kernel
theorem dX12_odds_1 : decode cX12_odds 1 = .ok (.iconst 0, 1) := by decide +kernel
theorem dX12_odds_2 : decode cX12_odds 2 = .ok (.putfield 3, 3) := by decide +kernel
theorem dX12_odds_5 : decode cX12_odds 5 = .ok (.ldc2_w 351, 3) := by decide +kernel
theorem dX12_odds_8 : decode cX12_odds 8 = .ok (.lstore_n 1, 1) := by decide +kernel
theorem dX12_odds_9 : decode cX12_odds 9 = .ok (.iconst 0, 1) := by decide +kernel
theorem dX12_odds_10 : decode cX12_odds 10 = .ok (.istore_n 3, 1) := by decide +kernel
theorem dX12_odds_11 : decode cX12_odds 11 = .ok (.iload_n 3, 1) := by decide +kernel
theorem dX12_odds_12 : decode cX12_odds 12 = .ok (.aload_n 0, 1) := by decide +kernel
theorem dX12_odds_13 : decode cX12_odds 13 = .ok (.invokevirtual 80, 3) := by decide +kernel
theorem dX12_odds_16 : decode cX12_odds 16 = .ok (.if_icmp .ge 42, 3) := by decide +kernel
theorem dX12_odds_19 : decode cX12_odds 19 = .ok (.aload_n 0, 1) := by decide +kernel
theorem dX12_odds_20 : decode cX12_odds 20 = .ok (.iload_n 3, 1) := by decide +kernel
theorem dX12_odds_21 : decode cX12_odds 21 = .ok (.invokevirtual 243, 3) := by decide +kernel
theorem dX12_odds_24 : decode cX12_odds 24 = .ok (.ifCond .ne 28, 3) := by decide +kernel
theorem dX12_odds_27 : decode cX12_odds 27 = .ok (.aload_n 0, 1) := by decide +kernel
theorem dX12_odds_28 : decode cX12_odds 28 = .ok (.iload_n 3, 1) := by decide +kernel
theorem dX12_odds_29 : decode cX12_odds 29 = .ok (.iconst 1, 1) := by decide +kernel
theorem dX12_odds_30 : decode cX12_odds 30 = .ok (.invokevirtual 88, 3) := by decide +kernel
theorem dX12_odds_33 : decode cX12_odds 33 = .ok (.ifCond .ge 19, 3) := by decide +kernel
theorem dX12_odds_36 : decode cX12_odds 36 = .ok (.lload_n 1, 1) := by decide +kernel
theorem dX12_odds_37 : decode cX12_odds 37 = .ok (.bipush 100, 2) := by decide +kernel
theorem dX12_odds_39 : decode cX12_odds 39 = .ok (.aload_n 0, 1) := by decide +kernel
theorem dX12_odds_40 : decode cX12_odds 40 = .ok (.iload_n 3, 1) := by decide +kernel
theorem dX12_odds_41 : decode cX12_odds 41 = .ok (.invokevirtual 348, 3) := by decide +kernel
theorem dX12_odds_44 : decode cX12_odds 44 = .ok (.isub, 1) := by decide +kernel
theorem dX12_odds_45 : decode cX12_odds 45 = .ok (.i2l, 1) := by decide +kernel
theorem dX12_odds_46 : decode cX12_odds 46 = .ok (.lmul, 1) := by decide +kernel
theorem dX12_odds_47 : decode cX12_odds 47 = .ok (.ldc2_w 353, 3) := by decide +kernel
theorem dX12_odds_50 : decode cX12_odds 50 = .ok (.ldiv, 1) := by decide +kernel
theorem dX12_odds_51 : decode cX12_odds 51 = .ok (.lstore_n 1, 1) := by decide +kernel
theorem dX12_odds_52 : decode cX12_odds 52 = .ok (.iinc 3 1, 3) := by decide +kernel
theorem dX12_odds_55 : decode cX12_odds 55 = .ok (.goto (-44), 3) := by decide +kernel
theorem dX12_odds_58 : decode cX12_odds 58 = .ok (.lload_n 1, 1) := by decide +kernel
theorem dX12_odds_59 : decode cX12_odds 59 = .ok (.l2i, 1) := by decide +kernel
theorem dX12_odds_60 : decode cX12_odds 60 = .ok (.ireturn, 1) := by decide +kernel
set_option maxRecDepth 20000 in
theorem kb_240_0 : ∀ q ∈ tb_240_0, s_atx 240 yX12_odds cX12_odds q.1 q.2 := (List.forall_mem_cons.mpr ⟨⟨s_ldAn dX12_odds_0 rfl, s_mo_ldA _ _⟩, (List.forall_mem_cons.mpr ⟨⟨s_iconst dX12_odds_1 (by decide +kernel), s_mo_push _ _⟩, (List.forall_mem_cons.mpr ⟨⟨s_putI (ci := 8) (k := 0) rfl (by decide) inX12 tyX12_ok nmX12 rfl rfl w_1221 dX12_odds_2, s_mo_putI _ _ _⟩, (List.forall_mem_cons.mpr ⟨⟨s_ldc2 w_1682 dX12_odds_5, s_mo_push _ _⟩, (List.forall_mem_cons.mpr ⟨⟨s_stLn dX12_odds_8 rfl, s_mo_stL _ _⟩, (List.forall_mem_cons.mpr ⟨⟨s_iconst dX12_odds_9 (by decide +kernel), s_mo_push _ _⟩, (List.forall_mem_cons.mpr ⟨⟨s_stIn dX12_odds_10 rfl, s_mo_stI _ _⟩, (List.forall_mem_cons.mpr ⟨⟨s_ldIn dX12_odds_11 rfl, s_mo_ldI _ _⟩, (List.forall_mem_cons.mpr ⟨⟨s_ldAn dX12_odds_12 rfl, s_mo_ldA _ _⟩, (List.forall_mem_cons.mpr ⟨⟨s_sV mk_240 mk_156 ok_156 (by decide +kernel) dX12_odds_13 w_1454 w_1456 wp_49 (Or.inr ⟨8, _, _, rfl, rfl⟩), s_h0 mk_240⟩, (List.forall_mem_cons.mpr ⟨⟨s_icge dX12_odds_16 (by decide), s_mo_icge _ _⟩, (List.forall_mem_cons.mpr ⟨⟨s_ldAn dX12_odds_19 rfl, s_mo_ldA _ _⟩, (List.forall_mem_cons.mpr ⟨⟨s_ldIn dX12_odds_20 rfl, s_mo_ldI _ _⟩, (List.forall_mem_cons.mpr ⟨⟨s_sV mk_240 mk_162 ok_162 (by decide +kernel) dX12_odds_21 w_1465 w_1467 wp_51 (Or.inr ⟨8, _, _, rfl, rfl⟩), s_h0 mk_240⟩, (List.forall_mem_cons.mpr ⟨⟨s_ifne dX12_odds_24 (by decide), s_mo_ifne _ _⟩, (List.forall_mem_cons.mpr ⟨⟨s_ldAn dX12_odds_27 rfl, s_mo_ldA _ _⟩, (List.forall_mem_cons.mpr ⟨⟨s_ldIn dX12_odds_28 rfl, s_mo_ldI _ _⟩, (List.forall_mem_cons.mpr ⟨⟨s_iconst dX12_odds_29 (by decide +kernel), s_mo_push _ _⟩, (List.forall_mem_cons.mpr ⟨⟨s_sV mk_240 mk_158 ok_158 (by decide +kernel) dX12_odds_30 w_1469 w_1471 wp_52 (Or.inr ⟨8, _, _, rfl, rfl⟩), s_h0 mk_240⟩, (List.forall_mem_cons.mpr ⟨⟨s_ifge dX12_odds_33 (by decide), s_mo_ifge _ _⟩, (List.forall_mem_cons.mpr ⟨⟨s_ldLn dX12_odds_36 rfl, s_mo_ldL _ _⟩, (List.forall_mem_cons.mpr ⟨⟨s_bipush dX12_odds_37 (by decide +kernel), s_mo_push _ _⟩, (List.forall_mem_cons.mpr ⟨⟨s_ldAn dX12_odds_39 rfl, s_mo_ldA _ _⟩, (List.forall_mem_cons.mpr ⟨⟨s_ldIn dX12_odds_40 rfl, s_mo_ldI _ _⟩, (List.forall_mem_cons.mpr ⟨⟨s_sV mk_240 mk_238 ok_238 (by decide +kernel) dX12_odds_41 w_1674 w_1676 wp_75 (Or.inr ⟨8, _, _, rfl, rfl⟩), s_h0 mk_240⟩, (List.forall_mem_cons.mpr ⟨⟨s_isub dX12_odds_44, s_mo_bin _ _⟩, (List.forall_mem_cons.mpr ⟨⟨s_i2l dX12_odds_45, s_mo_i2l _⟩, (List.forall_mem_cons.mpr ⟨⟨s_lmul dX12_odds_46, s_mo_binL _ _⟩, (List.forall_mem_cons.mpr ⟨⟨s_ldc2 w_1683 dX12_odds_47, s_mo_push _ _⟩, (List.forall_mem_cons.mpr ⟨⟨s_ldiv dX12_odds_50, s_mo_divL _⟩, (List.forall_mem_cons.mpr ⟨⟨s_stLn dX12_odds_51 rfl, s_mo_stL _ _⟩, (List.forall_mem_cons.mpr ⟨⟨s_inc dX12_odds_52 (by decide +kernel), s_mo_inc _ _ _⟩, (List.forall_mem_cons.mpr ⟨⟨s_goto dX12_odds_55 (by decide), s_mo_goto _⟩, (List.forall_mem_cons.mpr ⟨⟨s_ldLn dX12_odds_58 rfl, s_mo_ldL _ _⟩, (List.forall_mem_cons.mpr ⟨⟨s_l2i dX12_odds_59, s_mo_l2i _⟩, (List.forall_mem_cons.mpr ⟨s_r1 mk_240 dX12_odds_60, (fun _ h => absurd h List.not_mem_nil)⟩)⟩)⟩)⟩)⟩)⟩)⟩)⟩)⟩)⟩)⟩)⟩)⟩)⟩)⟩)⟩)⟩)⟩)⟩)⟩)⟩)⟩)⟩)⟩)⟩)⟩)⟩)⟩)⟩)⟩)⟩)⟩)⟩)⟩)⟩)⟩)
theorem km_240 : ∀ t ∈ tm_240, s_tok 240 t := (List.forall_mem_cons.mpr ⟨s_lift mk_240 kb_240_0, (fun _ h => absurd h List.not_mem_nil)⟩)
theorem dX12_spread_0 : decode cX12_spread 0 = .ok (.aload_n 0, 1) := by decide +kernel
theorem dX12_spread_1 : decode cX12_spread 1 = .ok (.iconst 0, 1) := by decide +kernel
theorem dX12_spread_2 : decode cX12_spread 2 = .ok (.putfield 3, 3) := by decide +kernel
theorem dX12_spread_5 : decode cX12_spread 5 = .ok (.iconst 1, 1) := by decide +kernel
theorem dX12_spread_6 : decode cX12_spread 6 = .ok (.istore_n 2, 1) := by decide +kernel
theorem dX12_spread_7 : decode cX12_spread 7 = .ok (.iload_n 2, 1) := by decide +kernel
theorem dX12_spread_8 : decode cX12_spread 8 = .ok (.bipush 30, 2) := by decide +kernel
theorem dX12_spread_10 : decode cX12_spread 10 = .ok (.if_icmp .gt 16, 3) := by decide +kernel
theorem dX12_spread_13 : decode cX12_spread 13 = .ok (.aload_n 0, 1) := by decide +kernel
theorem dX12_spread_14 : decode cX12_spread 14 = .ok (.getfield 54, 3) := by decide +kernel
theorem dX12_spread_17 : decode cX12_spread 17 = .ok (.iload_n 2, 1) := by decide +kernel
theorem dX12_spread_18 : decode cX12_spread 18 = .ok (.iconst 0, 1) := by decide +kernel
theorem dX12_spread_19 : decode cX12_spread 19 = .ok (.iastore, 1) := by decide +kernel
theorem dX12_spread_20 : decode cX12_spread 20 = .ok (.iinc 2 1, 3) := by decide +kernel
theorem dX12_spread_23 : decode cX12_spread 23 = .ok (.goto (-16), 3) := by decide +kernel
theorem dX12_spread_26 : decode cX12_spread 26 = .ok (.aload_n 0, 1) := by decide +kernel
theorem dX12_spread_27 : decode cX12_spread 27 = .ok (.getfield 54, 3) := by decide +kernel
theorem dX12_spread_30 : decode cX12_spread 30 = .ok (.iconst 0, 1) := by decide +kernel
theorem dX12_spread_31 : decode cX12_spread 31 = .ok (.ldc_w 355, 3) := by decide +kernel
theorem dX12_spread_34 : decode cX12_spread 34 = .ok (.iastore, 1) := by decide +kernel
theorem dX12_spread_35 : decode cX12_spread 35 = .ok (.iconst 0, 1) := by decide +kernel
theorem dX12_spread_36 : decode cX12_spread 36 = .ok (.istore_n 2, 1) := by decide +kernel
theorem dX12_spread_37 : decode cX12_spread 37 = .ok (.iload_n 2, 1) := by decide +kernel
theorem dX12_spread_38 : decode cX12_spread 38 = .ok (.aload_n 0, 1) := by decide +kernel
theorem dX12_spread_39 : decode cX12_spread 39 = .ok (.invokevirtual 80, 3) := by decide +kernel
theorem dX12_spread_42 : decode cX12_spread 42 = .ok (.if_icmp .ge 103, 3) := by decide +kernel
theorem dX12_spread_45 : decode cX12_spread 45 = .ok (.aload_n 0, 1) := by decide +kernel
theorem dX12_spread_46 : decode cX12_spread 46 = .ok (.iload_n 2, 1) := by decide +kernel
theorem dX12_spread_47 : decode cX12_spread 47 = .ok (.invokevirtual 243, 3) := by decide +kernel
theorem dX12_spread_50 : decode cX12_spread 50 = .ok (.ifCond .ne 89, 3) := by decide +kernel
theorem dX12_spread_53 : decode cX12_spread 53 = .ok (.aload_n 0, 1) := by decide +kernel
theorem dX12_spread_54 : decode cX12_spread 54 = .ok (.iload_n 2, 1) := by decide +kernel
theorem dX12_spread_55 : decode cX12_spread 55 = .ok (.iconst 1, 1) := by decide +kernel
theorem dX12_spread_56 : decode cX12_spread 56 = .ok (.invokevirtual 88, 3) := by decide +kernel
theorem dX12_spread_59 : decode cX12_spread 59 = .ok (.ifCond .lt 6, 3) := by decide +kernel
theorem dX12_spread_62 : decode cX12_spread 62 = .ok (.goto 77, 3) := by decide +kernel
theorem dX12_spread_65 : decode cX12_spread 65 = .ok (.aload_n 0, 1) := by decide +kernel
theorem dX12_spread_66 : decode cX12_spread 66 = .ok (.iload_n 2, 1) := by decide +kernel
theorem dX12_spread_67 : decode cX12_spread 67 = .ok (.invokevirtual 348, 3) := by decide +kernel
theorem dX12_spread_70 : decode cX12_spread 70 = .ok (.i2l, 1) := by decide +kernel
theorem dX12_spread_71 : decode cX12_spread 71 = .ok (.lstore_n 3, 1) := by decide +kernel
theorem dX12_spread_72 : decode cX12_spread 72 = .ok (.bipush 30, 2) := by decide +kernel
theorem dX12_spread_74 : decode cX12_spread 74 = .ok (.istore 5, 2) := by decide +kernel
theorem dX12_spread_76 : decode cX12_spread 76 = .ok (.iload 5, 2) := by decide +kernel
theorem dX12_spread_78 : decode cX12_spread 78 = .ok (.ifCond .lt 61, 3) := by decide +kernel
theorem dX12_spread_81 : decode cX12_spread 81 = .ok (.aload_n 0, 1) := by decide +kernel
theorem dX12_spread_82 : decode cX12_spread 82 = .ok (.getfield 54, 3) := by decide +kernel
theorem dX12_spread_85 : decode cX12_spread 85 = .ok (.iload 5, 2) := by decide +kernel
theorem dX12_spread_87 : decode cX12_spread 87 = .ok (.aload_n 0, 1) := by decide +kernel
theorem dX12_spread_88 : decode cX12_spread 88 = .ok (.getfield 54, 3) := by decide +kernel
theorem dX12_spread_91 : decode cX12_spread 91 = .ok (.iload 5, 2) := by decide +kernel
theorem dX12_spread_93 : decode cX12_spread 93 = .ok (.iaload, 1) := by decide +kernel
theorem dX12_spread_94 : decode cX12_spread 94 = .ok (.i2l, 1) := by decide +kernel
theorem dX12_spread_95 : decode cX12_spread 95 = .ok (.ldc2_w 353, 3) := by decide +kernel
theorem dX12_spread_98 : decode cX12_spread 98 = .ok (.lload_n 3, 1) := by decide +kernel
theorem dX12_spread_99 : decode cX12_spread 99 = .ok (.lsub, 1) := by decide +kernel
theorem dX12_spread_100 : decode cX12_spread 100 = .ok (.lmul, 1) := by decide +kernel
theorem dX12_spread_101 : decode cX12_spread 101 = .ok (.ldc2_w 353, 3) := by decide +kernel
theorem dX12_spread_104 : decode cX12_spread 104 = .ok (.ldiv, 1) := by decide +kernel
theorem dX12_spread_105 : decode cX12_spread 105 = .ok (.iload 5, 2) := by decide +kernel
theorem dX12_spread_107 : decode cX12_spread 107 = .ok (.ifCond .le 22, 3) := by decide +kernel
theorem dX12_spread_110 : decode cX12_spread 110 = .ok (.aload_n 0, 1) := by decide +kernel
theorem dX12_spread_111 : decode cX12_spread 111 = .ok (.getfield 54, 3) := by decide +kernel
theorem dX12_spread_114 : decode cX12_spread 114 = .ok (.iload 5, 2) := by decide +kernel
theorem dX12_spread_116 : decode cX12_spread 116 = .ok (.iconst 1, 1) := by decide +kernel
theorem dX12_spread_117 : decode cX12_spread 117 = .ok (.isub, 1) := by decide +kernel
theorem dX12_spread_118 : decode cX12_spread 118 = .ok (.iaload, 1) := by decide +kernel
theorem dX12_spread_119 : decode cX12_spread 119 = .ok (.i2l, 1) := by decide +kernel
theorem dX12_spread_120 : decode cX12_spread 120 = .ok (.lload_n 3, 1) := by decide +kernel
theorem dX12_spread_121 : decode cX12_spread 121 = .ok (.lmul, 1) := by decide +kernel
theorem dX12_spread_122 : decode cX12_spread 122 = .ok (.ldc2_w 353, 3) := by decide +kernel
theorem dX12_spread_125 : decode cX12_spread 125 = .ok (.ldiv, 1) := by decide +kernel
theorem dX12_spread_126 : decode cX12_spread 126 = .ok (.goto 4, 3) := by decide +kernel
theorem dX12_spread_129 : decode cX12_spread 129 = .ok (.lconst 0, 1) := by decide +kernel
theorem dX12_spread_130 : decode cX12_spread 130 = .ok (.ladd, 1) := by decide +kernel
theorem dX12_spread_131 : decode cX12_spread 131 = .ok (.l2i, 1) := by decide +kernel
theorem dX12_spread_132 : decode cX12_spread 132 = .ok (.iastore, 1) := by decide +kernel
theorem dX12_spread_133 : decode cX12_spread 133 = .ok (.iinc 5 (-1), 3) := by decide +kernel
theorem dX12_spread_136 : decode cX12_spread 136 = .ok (.goto (-60), 3) := by decide +kernel
theorem dX12_spread_139 : decode cX12_spread 139 = .ok (.iinc 2 1, 3) := by decide +kernel
theorem dX12_spread_142 : decode cX12_spread 142 = .ok (.goto (-105), 3) := by decide +kernel
theorem dX12_spread_145 : decode cX12_spread 145 = .ok (.iload_n 1, 1) := by decide +kernel
theorem dX12_spread_146 : decode cX12_spread 146 = .ok (.iconst 0, 1) := by decide +kernel
theorem dX12_spread_147 : decode cX12_spread 147 = .ok (.bipush 30, 2) := by decide +kernel
theorem dX12_spread_149 : decode cX12_spread 149 = .ok (.invokestatic 84, 3) := by decide +kernel
theorem dX12_spread_152 : decode cX12_spread 152 = .ok (.ifCond .eq 12, 3) := by decide +kernel
theorem dX12_spread_155 : decode cX12_spread 155 = .ok (.aload_n 0, 1) := by decide +kernel
theorem dX12_spread_156 : decode cX12_spread 156 = .ok (.getfield 54, 3) := by decide +kernel
theorem dX12_spread_159 : decode cX12_spread 159 = .ok (.iload_n 1, 1) := by decide +kernel
theorem dX12_spread_160 : decode cX12_spread 160 = .ok (.iaload, 1) := by decide +kernel
theorem dX12_spread_161 : decode cX12_spread 161 = .ok (.goto 4, 3) := by decide +kernel
theorem dX12_spread_164 : decode cX12_spread 164 = .ok (.iconst 0, 1) := by decide +kernel
theorem dX12_spread_165 : decode cX12_spread 165 = .ok (.ireturn, 1) := by decide +kernel
set_option maxRecDepth 20000 in
theorem kb_241_0 : ∀ q ∈ tb_241_0, s_atx 241 yX12_spread cX12_spread q.1 q.2 := (List.forall_mem_cons.mpr ⟨⟨s_ldAn dX12_spread_0 rfl, s_mo_ldA _ _⟩, (List.forall_mem_cons.mpr ⟨⟨s_iconst dX12_spread_1 (by decide +kernel), s_mo_push _ _⟩, (List.forall_mem_cons.mpr ⟨⟨s_putI (ci := 8) (k := 0) rfl (by decide) inX12 tyX12_ok nmX12 rfl rfl w_1221 dX12_spread_2, s_mo_putI _ _ _⟩, (List.forall_mem_cons.mpr ⟨⟨s_iconst dX12_spread_5 (by decide +kernel), s_mo_push _ _⟩, (List.forall_mem_cons.mpr ⟨⟨s_stIn dX12_spread_6 rfl, s_mo_stI _ _⟩, (List.forall_mem_cons.mpr ⟨⟨s_ldIn dX12_spread_7 rfl, s_mo_ldI _ _⟩, (List.forall_mem_cons.mpr ⟨⟨s_bipush dX12_spread_8 (by decide +kernel), s_mo_push _ _⟩, (List.forall_mem_cons.mpr ⟨⟨s_icgt dX12_spread_10 (by decide), s_mo_icgt _ _⟩, (List.forall_mem_cons.mpr ⟨⟨s_ldAn dX12_spread_13 rfl, s_mo_ldA _ _⟩, (List.forall_mem_cons.mpr ⟨⟨s_getf (ci := 8) (k := 23) rfl (by decide) inX12 w_1244 dX12_spread_14, s_mo_getf _ _ _⟩, (List.forall_mem_cons.mpr ⟨⟨s_ldIn dX12_spread_17 rfl, s_mo_ldI _ _⟩, (List.forall_mem_cons.mpr ⟨⟨s_iconst dX12_spread_18 (by decide +kernel), s_mo_push _ _⟩, (List.forall_mem_cons.mpr ⟨⟨s_iast dX12_spread_19, s_mo_iast _⟩, (List.forall_mem_cons.mpr ⟨⟨s_inc dX12_spread_20 (by decide +kernel), s_mo_inc _ _ _⟩, (List.forall_mem_cons.mpr ⟨⟨s_goto dX12_spread_23 (by decide), s_mo_goto _⟩, (List.forall_mem_cons.mpr ⟨⟨s_ldAn dX12_spread_26 rfl, s_mo_ldA _ _⟩, (List.forall_mem_cons.mpr ⟨⟨s_getf (ci := 8) (k := 23) rfl (by decide) inX12 w_1244 dX12_spread_27, s_mo_getf _ _ _⟩, (List.forall_mem_cons.mpr ⟨⟨s_iconst dX12_spread_30 (by decide +kernel), s_mo_push _ _⟩, (List.forall_mem_cons.mpr ⟨⟨s_ldcw w_1688 dX12_spread_31, s_mo_push _ _⟩, (List.forall_mem_cons.mpr ⟨⟨s_iast dX12_spread_34, s_mo_iast _⟩, (List.forall_mem_cons.mpr ⟨⟨s_iconst dX12_spread_35 (by decide +kernel), s_mo_push _ _⟩, (List.forall_mem_cons.mpr ⟨⟨s_stIn dX12_spread_36 rfl, s_mo_stI _ _⟩, (List.forall_mem_cons.mpr ⟨⟨s_ldIn dX12_spread_37 rfl, s_mo_ldI _ _⟩, (List.forall_mem_cons.mpr ⟨⟨s_ldAn dX12_spread_38 rfl, s_mo_ldA _ _⟩, (List.forall_mem_cons.mpr ⟨⟨s_sV mk_241 mk_156 ok_156 (by decide +kernel) dX12_spread_39 w_1454 w_1456 wp_49 (Or.inr ⟨8, _, _, rfl, rfl⟩), s_h0 mk_241⟩, (List.forall_mem_cons.mpr ⟨⟨s_icge dX12_spread_42 (by decide), s_mo_icge _ _⟩, (List.forall_mem_cons.mpr ⟨⟨s_ldAn dX12_spread_45 rfl, s_mo_ldA _ _⟩, (List.forall_mem_cons.mpr ⟨⟨s_ldIn dX12_spread_46 rfl, s_mo_ldI _ _⟩, (List.forall_mem_cons.mpr ⟨⟨s_sV mk_241 mk_162 ok_162 (by decide +kernel) dX12_spread_47 w_1465 w_1467 wp_51 (Or.inr ⟨8, _, _, rfl, rfl⟩), s_h0 mk_241⟩, (List.forall_mem_cons.mpr ⟨⟨s_ifne dX12_spread_50 (by decide), s_mo_ifne _ _⟩, (List.forall_mem_cons.mpr ⟨⟨s_ldAn dX12_spread_53 rfl, s_mo_ldA _ _⟩, (List.forall_mem_cons.mpr ⟨⟨s_ldIn dX12_spread_54 rfl, s_mo_ldI _ _⟩, (List.forall_mem_cons.mpr ⟨⟨s_iconst dX12_spread_55 (by decide +kernel), s_mo_push _ _⟩, (List.forall_mem_cons.mpr ⟨⟨s_sV mk_241 mk_158 ok_158 (by decide +kernel) dX12_spread_56 w_1469 w_1471 wp_52 (Or.inr ⟨8, _, _, rfl, rfl⟩), s_h0 mk_241⟩, (List.forall_mem_cons.mpr ⟨⟨s_iflt dX12_spread_59 (by decide), s_mo_iflt _ _⟩, (List.forall_mem_cons.mpr ⟨⟨s_goto dX12_spread_62 (by decide), s_mo_goto _⟩, (fun _ h => absurd h List.not_mem_nil)⟩)⟩)⟩)⟩)⟩)⟩)⟩)⟩)⟩)⟩)⟩)⟩)⟩)⟩)⟩)⟩)⟩)⟩)⟩)⟩)⟩)⟩)⟩)⟩)⟩)⟩)⟩)⟩)⟩)⟩)⟩)⟩)⟩)⟩)⟩)⟩)
set_option maxRecDepth 20000 in
theorem kb_241_1 : ∀ q ∈ tb_241_1, s_atx 241 yX12_spread cX12_spread q.1 q.2 := (List.forall_mem_cons.mpr ⟨⟨s_ldAn dX12_spread_65 rfl, s_mo_ldA _ _⟩, (List.forall_mem_cons.mpr ⟨⟨s_ldIn dX12_spread_66 rfl, s_mo_ldI _ _⟩, (List.forall_mem_cons.mpr ⟨⟨s_sV mk_241 mk_238 ok_238 (by decide +kernel) dX12_spread_67 w_1674 w_1676 wp_75 (Or.inr ⟨8, _, _, rfl, rfl⟩), s_h0 mk_241⟩, (List.forall_mem_cons.mpr ⟨⟨s_i2l dX12_spread_70, s_mo_i2l _⟩, (List.forall_mem_cons.mpr ⟨⟨s_stLn dX12_spread_71 rfl, s_mo_stL _ _⟩, (List.forall_mem_cons.mpr ⟨⟨s_bipush dX12_spread_72 (by decide +kernel), s_mo_push _ _⟩, (List.forall_mem_cons.mpr ⟨⟨s_stI dX12_spread_74, s_mo_stI _ _⟩, (List.forall_mem_cons.mpr ⟨⟨s_ldI dX12_spread_76, s_mo_ldI _ _⟩, (List.forall_mem_cons.mpr ⟨⟨s_iflt dX12_spread_78 (by decide), s_mo_iflt _ _⟩, (List.forall_mem_cons.mpr ⟨⟨s_ldAn dX12_spread_81 rfl, s_mo_ldA _ _⟩, (List.forall_mem_cons.mpr ⟨⟨s_getf (ci := 8) (k := 23) rfl (by decide) inX12 w_1244 dX12_spread_82, s_mo_getf _ _ _⟩, (List.forall_mem_cons.mpr ⟨⟨s_ldI dX12_spread_85, s_mo_ldI _ _⟩, (List.forall_mem_cons.mpr ⟨⟨s_ldAn dX12_spread_87 rfl, s_mo_ldA _ _⟩, (List.forall_mem_cons.mpr ⟨⟨s_getf (ci := 8) (k := 23) rfl (by decide) inX12 w_1244 dX12_spread_88, s_mo_getf _ _ _⟩, (List.forall_mem_cons.mpr ⟨⟨s_ldI dX12_spread_91, s_mo_ldI _ _⟩, (List.forall_mem_cons.mpr ⟨⟨s_iald dX12_spread_93, s_mo_iald _⟩, (List.forall_mem_cons.mpr ⟨⟨s_i2l dX12_spread_94, s_mo_i2l _⟩, (List.forall_mem_cons.mpr ⟨⟨s_ldc2 w_1683 dX12_spread_95, s_mo_push _ _⟩, (List.forall_mem_cons.mpr ⟨⟨s_ldLn dX12_spread_98 rfl, s_mo_ldL _ _⟩, (List.forall_mem_cons.mpr ⟨⟨s_lsub dX12_spread_99, s_mo_binL _ _⟩, (List.forall_mem_cons.mpr ⟨⟨s_lmul dX12_spread_100, s_mo_binL _ _⟩, (List.forall_mem_cons.mpr ⟨⟨s_ldc2 w_1683 dX12_spread_101, s_mo_push _ _⟩, (List.forall_mem_cons.mpr ⟨⟨s_ldiv dX12_spread_104, s_mo_divL _⟩, (List.forall_mem_cons.mpr ⟨⟨s_ldI dX12_spread_105, s_mo_ldI _ _⟩, (List.forall_mem_cons.mpr ⟨⟨s_ifle dX12_spread_107 (by decide), s_mo_ifle _ _⟩, (List.forall_mem_cons.mpr ⟨⟨s_ldAn dX12_spread_110 rfl, s_mo_ldA _ _⟩, (List.forall_mem_cons.mpr ⟨⟨s_getf (ci := 8) (k := 23) rfl (by decide) inX12 w_1244 dX12_spread_111, s_mo_getf _ _ _⟩, (List.forall_mem_cons.mpr ⟨⟨s_ldI dX12_spread_114, s_mo_ldI _ _⟩, (List.forall_mem_cons.mpr ⟨⟨s_iconst dX12_spread_116 (by decide +kernel), s_mo_push _ _⟩, (List.forall_mem_cons.mpr ⟨⟨s_isub dX12_spread_117, s_mo_bin _ _⟩, (List.forall_mem_cons.mpr ⟨⟨s_iald dX12_spread_118, s_mo_iald _⟩, (List.forall_mem_cons.mpr ⟨⟨s_i2l dX12_spread_119, s_mo_i2l _⟩, (List.forall_mem_cons.mpr ⟨⟨s_ldLn dX12_spread_120 rfl, s_mo_ldL _ _⟩, (List.forall_mem_cons.mpr ⟨⟨s_lmul dX12_spread_121, s_mo_binL _ _⟩, (List.forall_mem_cons.mpr ⟨⟨s_ldc2 w_1683 dX12_spread_122, s_mo_push _ _⟩, (List.forall_mem_cons.mpr ⟨⟨s_ldiv dX12_spread_125, s_mo_divL _⟩, (List.forall_mem_cons.mpr ⟨⟨s_goto dX12_spread_126 (by decide), s_mo_goto _⟩, (fun _ h => absurd h List.not_mem_nil)⟩)⟩)⟩)⟩)⟩)⟩)⟩)⟩)⟩)⟩)⟩)⟩)⟩)⟩)⟩)⟩)⟩)⟩)⟩)⟩)⟩)⟩)⟩)⟩)⟩)⟩)⟩)⟩)⟩)⟩)⟩)⟩)⟩)⟩)⟩)⟩)⟩)
set_option maxRecDepth 20000 in
theorem kb_241_2 : ∀ q ∈ tb_241_2, s_atx 241 yX12_spread cX12_spread q.1 q.2 := (List.forall_mem_cons.mpr ⟨⟨s_lconst dX12_spread_129 (by decide +kernel), s_mo_push _ _⟩, (List.forall_mem_cons.mpr ⟨⟨s_ladd dX12_spread_130, s_mo_binL _ _⟩, (List.forall_mem_cons.mpr ⟨⟨s_l2i dX12_spread_131, s_mo_l2i _⟩, (List.forall_mem_cons.mpr ⟨⟨s_iast dX12_spread_132, s_mo_iast _⟩, (List.forall_mem_cons.mpr ⟨⟨s_inc dX12_spread_133 (by decide +kernel), s_mo_inc _ _ _⟩, (List.forall_mem_cons.mpr ⟨⟨s_goto dX12_spread_136 (by decide), s_mo_goto _⟩, (List.forall_mem_cons.mpr ⟨⟨s_inc dX12_spread_139 (by decide +kernel), s_mo_inc _ _ _⟩, (List.forall_mem_cons.mpr ⟨⟨s_goto dX12_spread_142 (by decide), s_mo_goto _⟩, (List.forall_mem_cons.mpr ⟨⟨s_ldIn dX12_spread_145 rfl, s_mo_ldI _ _⟩, (List.forall_mem_cons.mpr ⟨⟨s_iconst dX12_spread_146 (by decide +kernel), s_mo_push _ _⟩, (List.forall_mem_cons.mpr ⟨⟨s_bipush dX12_spread_147 (by decide +kernel), s_mo_push _ _⟩, (List.forall_mem_cons.mpr ⟨⟨s_sS mk_241 mk_150 ok_150 (by decide +kernel) dX12_spread_149 w_1458 w_1459, s_h0 mk_241⟩, (List.forall_mem_cons.mpr ⟨⟨s_ifeq dX12_spread_152 (by decide), s_mo_ifeq _ _⟩, (List.forall_mem_cons.mpr ⟨⟨s_ldAn dX12_spread_155 rfl, s_mo_ldA _ _⟩, (List.forall_mem_cons.mpr ⟨⟨s_getf (ci := 8) (k := 23) rfl (by decide) inX12 w_1244 dX12_spread_156, s_mo_getf _ _ _⟩, (List.forall_mem_cons.mpr ⟨⟨s_ldIn dX12_spread_159 rfl, s_mo_ldI _ _⟩, (List.forall_mem_cons.mpr ⟨⟨s_iald dX12_spread_160, s_mo_iald _⟩, (List.forall_mem_cons.mpr ⟨⟨s_goto dX12_spread_161 (by decide), s_mo_goto _⟩, (List.forall_mem_cons.mpr ⟨⟨s_iconst dX12_spread_164 (by decide +kernel), s_mo_push _ _⟩, (List.forall_mem_cons.mpr ⟨s_r1 mk_241 dX12_spread_165, (fun _ h => absurd h List.not_mem_nil)⟩)⟩)⟩)⟩)⟩)⟩)⟩)⟩)⟩)⟩)⟩)⟩)⟩)⟩)⟩)⟩)⟩)⟩)⟩)⟩)
theorem km_241 : ∀ t ∈ tm_241, s_tok 241 t := (List.forall_mem_cons.mpr ⟨s_lift mk_241 kb_241_0, (List.forall_mem_cons.mpr ⟨s_lift mk_241 kb_241_1, (List.forall_mem_cons.mpr ⟨s_lift mk_241 kb_241_2, (fun _ h => absurd h List.not_mem_nil)⟩)⟩)⟩)
theorem dX12_isWay_0 : decode cX12_isWay 0 = .ok (.iload_n 1, 1) := by decide +kernel
theorem dX12_isWay_1 : decode cX12_isWay 1 = .ok (.iconst 1, 1) := by decide +kernel
theorem dX12_isWay_2 : decode cX12_isWay 2 = .ok (.iand, 1) := by decide +kernel
theorem dX12_isWay_3 : decode cX12_isWay 3 = .ok (.istore_n 2, 1) := by decide +kernel
theorem dX12_isWay_4 : decode cX12_isWay 4 = .ok (.iconst 0, 1) := by decide +kernel
theorem dX12_isWay_5 : decode cX12_isWay 5 = .ok (.istore_n 3, 1) := by decide +kernel
theorem dX12_isWay_6 : decode cX12_isWay 6 = .ok (.iload_n 2, 1) := by decide +kernel
theorem dX12_isWay_7 : decode cX12_isWay 7 = .ok (.iload_n 3, 1) := by decide +kernel
theorem dX12_isWay_8 : decode cX12_isWay 8 = .ok (.if_icmp .eq 16, 3) := by decide +kernel
theorem dX12_isWay_11 : decode cX12_isWay 11 = .ok (.iload_n 2, 1) := by decide +kernel
theorem dX12_isWay_12 : decode cX12_isWay 12 = .ok (.istore_n 3, 1) := by decide +kernel
theorem dX12_isWay_13 : decode cX12_isWay 13 = .ok (.aload_n 0, 1) := by decide +kernel
theorem dX12_isWay_14 : decode cX12_isWay 14 = .ok (.iload_n 3, 1) := by decide +kernel
theorem dX12_isWay_15 : decode cX12_isWay 15 = .ok (.invokevirtual 337, 3) := by decide +kernel
theorem dX12_isWay_18 : decode cX12_isWay 18 = .ok (.iload_n 1, 1) := by decide +kernel
theorem dX12_isWay_19 : decode cX12_isWay 19 = .ok (.iand, 1) := by decide +kernel
theorem dX12_isWay_20 : decode cX12_isWay 20 = .ok (.istore_n 2, 1) := by decide +kernel
theorem dX12_isWay_21 : decode cX12_isWay 21 = .ok (.goto (-15), 3) := by decide +kernel
theorem dX12_isWay_24 : decode cX12_isWay 24 = .ok (.iload_n 2, 1) := by decide +kernel
theorem dX12_isWay_25 : decode cX12_isWay 25 = .ok (.aload_n 0, 1) := by decide +kernel
theorem dX12_isWay_26 : decode cX12_isWay 26 = .ok (.invokevirtual 80, 3) := by decide +kernel
theorem dX12_isWay_29 : decode cX12_isWay 29 = .ok (.iconst 1, 1) := by decide +kernel
theorem dX12_isWay_30 : decode cX12_isWay 30 = .ok (.isub, 1) := by decide +kernel
theorem dX12_isWay_31 : decode cX12_isWay 31 = .ok (.invokestatic 304, 3) := by decide +kernel
theorem dX12_isWay_34 : decode cX12_isWay 34 = .ok (.ireturn, 1) := by decide +kernel
set_option maxRecDepth 20000 in
theorem kb_242_0 : ∀ q ∈ tb_242_0, s_atx 242 yX12_isWay cX12_isWay q.1 q.2 := (List.forall_mem_cons.mpr ⟨⟨s_ldIn dX12_isWay_0 rfl, s_mo_ldI _ _⟩, (List.forall_mem_cons.mpr ⟨⟨s_iconst dX12_isWay_1 (by decide +kernel), s_mo_push _ _⟩, (List.forall_mem_cons.mpr ⟨⟨s_iand dX12_isWay_2, s_mo_bin _ _⟩, (List.forall_mem_cons.mpr ⟨⟨s_stIn dX12_isWay_3 rfl, s_mo_stI _ _⟩, (List.forall_mem_cons.mpr ⟨⟨s_iconst dX12_isWay_4 (by decide +kernel), s_mo_push _ _⟩, (List.forall_mem_cons.mpr ⟨⟨s_stIn dX12_isWay_5 rfl, s_mo_stI _ _⟩, (List.forall_mem_cons.mpr ⟨⟨s_ldIn dX12_isWay_6 rfl, s_mo_ldI _ _⟩, (List.forall_mem_cons.mpr ⟨⟨s_ldIn dX12_isWay_7 rfl, s_mo_ldI _ _⟩, (List.forall_mem_cons.mpr ⟨⟨s_iceq dX12_isWay_8 (by decide), s_mo_iceq _ _⟩, (List.forall_mem_cons.mpr ⟨⟨s_ldIn dX12_isWay_11 rfl, s_mo_ldI _ _⟩, (List.forall_mem_cons.mpr ⟨⟨s_stIn dX12_isWay_12 rfl, s_mo_stI _ _⟩, (List.forall_mem_cons.mpr ⟨⟨s_ldAn dX12_isWay_13 rfl, s_mo_ldA _ _⟩, (List.forall_mem_cons.mpr ⟨⟨s_ldIn dX12_isWay_14 rfl, s_mo_ldI _ _⟩, (List.forall_mem_cons.mpr ⟨⟨s_sV mk_242 mk_231 ok_231 (by decide +kernel) dX12_isWay_15 w_1649 w_1651 wp_73 (Or.inr ⟨8, _, _, rfl, rfl⟩), s_h0 mk_242⟩, (List.forall_mem_cons.mpr ⟨⟨s_ldIn dX12_isWay_18 rfl, s_mo_ldI _ _⟩, (List.forall_mem_cons.mpr ⟨⟨s_iand dX12_isWay_19, s_mo_bin _ _⟩, (List.forall_mem_cons.mpr ⟨⟨s_stIn dX12_isWay_20 rfl, s_mo_stI _ _⟩, (List.forall_mem_cons.mpr ⟨⟨s_goto dX12_isWay_21 (by decide), s_mo_goto _⟩, (List.forall_mem_cons.mpr ⟨⟨s_ldIn dX12_isWay_24 rfl, s_mo_ldI _ _⟩, (List.forall_mem_cons.mpr ⟨⟨s_ldAn dX12_isWay_25 rfl, s_mo_ldA _ _⟩, (List.forall_mem_cons.mpr ⟨⟨s_sV mk_242 mk_156 ok_156 (by decide +kernel) dX12_isWay_26 w_1454 w_1456 wp_49 (Or.inr ⟨8, _, _, rfl, rfl⟩), s_h0 mk_242⟩, (List.forall_mem_cons.mpr ⟨⟨s_iconst dX12_isWay_29 (by decide +kernel), s_mo_push _ _⟩, (List.forall_mem_cons.mpr ⟨⟨s_isub dX12_isWay_30, s_mo_bin _ _⟩, (List.forall_mem_cons.mpr ⟨⟨s_sS mk_242 mk_164 ok_164 (by decide +kernel) dX12_isWay_31 w_1593 w_1594, s_h0 mk_242⟩, (List.forall_mem_cons.mpr ⟨s_r2 mk_242 dX12_isWay_34, (fun _ h => absurd h List.not_mem_nil)⟩)⟩)⟩)⟩)⟩)⟩)⟩)⟩)⟩)⟩)⟩)⟩)⟩)⟩)⟩)⟩)⟩)⟩)⟩)⟩)⟩)⟩)⟩)⟩)⟩)
theorem km_242 : ∀ t ∈ tm_242, s_tok 242 t := (List.forall_mem_cons.mpr ⟨s_lift mk_242 kb_242_0, (fun _ h => absurd h List.not_mem_nil)⟩)
theorem dX12_broken_0 : decode cX12_broken 0 = .ok (.iconst 0, 1) := by decide +kernel
theorem dX12_broken_1 : decode cX12_broken 1 = .ok (.istore_n 1, 1) := by decide +kernel
theorem dX12_broken_2 : decode cX12_broken 2 = .ok (.iconst 0, 1) := by decide +kernel
theorem dX12_broken_3 : decode cX12_broken 3 = .ok (.istore_n 2, 1) := by decide +kernel
theorem dX12_broken_4 : decode cX12_broken 4 = .ok (.iload_n 2, 1) := by decide +kernel
theorem dX12_broken_5 : decode cX12_broken 5 = .ok (.aload_n 0, 1) := by decide +kernel
theorem dX12_broken_6 : decode cX12_broken 6 = .ok (.invokevirtual 80, 3) := by decide +kernel
theorem dX12_broken_9 : decode cX12_broken 9 = .ok (.if_icmp .ge 27, 3) := by decide +kernel
theorem dX12_broken_12 : decode cX12_broken 12 = .ok (.iload_n 1, 1) := by decide +kernel
theorem dX12_broken_13 : decode cX12_broken 13 = .ok (.aload_n 0, 1) := by decide +kernel
theorem dX12_broken_14 : decode cX12_broken 14 = .ok (.iload_n 2, 1) := by decide +kernel
theorem dX12_broken_15 : decode cX12_broken 15 = .ok (.invokevirtual 243, 3) := by decide +kernel
theorem dX12_broken_18 : decode cX12_broken 18 = .ok (.ifCond .eq 9, 3) := by decide +kernel
theorem dX12_broken_21 : decode cX12_broken 21 = .ok (.iconst 1, 1) := by decide +kernel
theorem dX12_broken_22 : decode cX12_broken 22 = .ok (.iload_n 2, 1) := by decide +kernel
theorem dX12_broken_23 : decode cX12_broken 23 = .ok (.ishl, 1) := by decide +kernel
theorem dX12_broken_24 : decode cX12_broken 24 = .ok (.goto 4, 3) := by decide +kernel
theorem dX12_broken_27 : decode cX12_broken 27 = .ok (.iconst 0, 1) := by decide +kernel
theorem dX12_broken_28 : decode cX12_broken 28 = .ok (.ior, 1) := by decide +kernel
theorem dX12_broken_29 : decode cX12_broken 29 = .ok (.istore_n 1, 1) := by decide +kernel
theorem dX12_broken_30 : decode cX12_broken 30 = .ok (.iinc 2 1, 3) := by decide +kernel
theorem dX12_broken_33 : decode cX12_broken 33 = .ok (.goto (-29), 3) := by decide +kernel
theorem dX12_broken_36 : decode cX12_broken 36 = .ok (.iload_n 1, 1) := by decide +kernel
theorem dX12_broken_37 : decode cX12_broken 37 = .ok (.ireturn, 1) := by decide +kernel
set_option maxRecDepth 20000 in
theorem kb_243_0 : ∀ q ∈ tb_243_0, s_atx 243 yX12_broken cX12_broken q.1 q.2 := (List.forall_mem_cons.mpr ⟨⟨s_iconst dX12_broken_0 (by decide +kernel), s_mo_push _ _⟩, (List.forall_mem_cons.mpr ⟨⟨s_stIn dX12_broken_1 rfl, s_mo_stI _ _⟩, (List.forall_mem_cons.mpr ⟨⟨s_iconst dX12_broken_2 (by decide +kernel), s_mo_push _ _⟩, (List.forall_mem_cons.mpr ⟨⟨s_stIn dX12_broken_3 rfl, s_mo_stI _ _⟩, (List.forall_mem_cons.mpr ⟨⟨s_ldIn dX12_broken_4 rfl, s_mo_ldI _ _⟩, (List.forall_mem_cons.mpr ⟨⟨s_ldAn dX12_broken_5 rfl, s_mo_ldA _ _⟩, (List.forall_mem_cons.mpr ⟨⟨s_sV mk_243 mk_156 ok_156 (by decide +kernel) dX12_broken_6 w_1454 w_1456 wp_49 (Or.inr ⟨8, _, _, rfl, rfl⟩), s_h0 mk_243⟩, (List.forall_mem_cons.mpr ⟨⟨s_icge dX12_broken_9 (by decide), s_mo_icge _ _⟩, (List.forall_mem_cons.mpr ⟨⟨s_ldIn dX12_broken_12 rfl, s_mo_ldI _ _⟩, (List.forall_mem_cons.mpr ⟨⟨s_ldAn dX12_broken_13 rfl, s_mo_ldA _ _⟩, (List.forall_mem_cons.mpr ⟨⟨s_ldIn dX12_broken_14 rfl, s_mo_ldI _ _⟩, (List.forall_mem_cons.mpr ⟨⟨s_sV mk_243 mk_162 ok_162 (by decide +kernel) dX12_broken_15 w_1465 w_1467 wp_51 (Or.inr ⟨8, _, _, rfl, rfl⟩), s_h0 mk_243⟩, (List.forall_mem_cons.mpr ⟨⟨s_ifeq dX12_broken_18 (by decide), s_mo_ifeq _ _⟩, (List.forall_mem_cons.mpr ⟨⟨s_iconst dX12_broken_21 (by decide +kernel), s_mo_push _ _⟩, (List.forall_mem_cons.mpr ⟨⟨s_ldIn dX12_broken_22 rfl, s_mo_ldI _ _⟩, (List.forall_mem_cons.mpr ⟨⟨s_ishl dX12_broken_23, s_mo_bin _ _⟩, (List.forall_mem_cons.mpr ⟨⟨s_goto dX12_broken_24 (by decide), s_mo_goto _⟩, (List.forall_mem_cons.mpr ⟨⟨s_iconst dX12_broken_27 (by decide +kernel), s_mo_push _ _⟩, (List.forall_mem_cons.mpr ⟨⟨s_ior dX12_broken_28, s_mo_bin _ _⟩, (List.forall_mem_cons.mpr ⟨⟨s_stIn dX12_broken_29 rfl, s_mo_stI _ _⟩, (List.forall_mem_cons.mpr ⟨⟨s_inc dX12_broken_30 (by decide +kernel), s_mo_inc _ _ _⟩, (List.forall_mem_cons.mpr ⟨⟨s_goto dX12_broken_33 (by decide), s_mo_goto _⟩, (List.forall_mem_cons.mpr ⟨⟨s_ldIn dX12_broken_36 rfl, s_mo_ldI _ _⟩, (List.forall_mem_cons.mpr ⟨s_r1 mk_243 dX12_broken_37, (fun _ h => absurd h List.not_mem_nil)⟩)⟩)⟩)⟩)⟩)⟩)⟩)⟩)⟩)⟩)⟩)⟩)⟩)⟩)⟩)⟩)⟩)⟩)⟩)⟩)⟩)⟩)⟩)⟩)
theorem km_243 : ∀ t ∈ tm_243, s_tok 243 t := (List.forall_mem_cons.mpr ⟨s_lift mk_243 kb_243_0, (fun _ h => absurd h List.not_mem_nil)⟩)
theorem dX12_mayClose_0 : decode cX12_mayClose 0 = .ok (.aload_n 0, 1) := by decide +kernel
theorem dX12_mayClose_1 : decode cX12_mayClose 1 = .ok (.aload_n 0, 1) := by decide +kernel
theorem dX12_mayClose_2 : decode cX12_mayClose 2 = .ok (.invokevirtual 331, 3) := by decide +kernel
theorem dX12_mayClose_5 : decode cX12_mayClose 5 = .ok (.iload_n 1, 1) := by decide +kernel
theorem dX12_mayClose_6 : decode cX12_mayClose 6 = .ok (.iconst (-1), 1) := by decide +kernel
theorem dX12_mayClose_7 : decode cX12_mayClose 7 = .ok (.ixor, 1) := by decide +kernel
theorem dX12_mayClose_8 : decode cX12_mayClose 8 = .ok (.iand, 1) := by decide +kernel
theorem dX12_mayClose_9 : decode cX12_mayClose 9 = .ok (.aload_n 0, 1) := by decide +kernel
theorem dX12_mayClose_10 : decode cX12_mayClose 10 = .ok (.invokevirtual 356, 3) := by decide +kernel
theorem dX12_mayClose_13 : decode cX12_mayClose 13 = .ok (.iconst (-1), 1) := by decide +kernel
theorem dX12_mayClose_14 : decode cX12_mayClose 14 = .ok (.ixor, 1) := by decide +kernel
theorem dX12_mayClose_15 : decode cX12_mayClose 15 = .ok (.iand, 1) := by decide +kernel
theorem dX12_mayClose_16 : decode cX12_mayClose 16 = .ok (.invokevirtual 359, 3) := by decide +kernel
theorem dX12_mayClose_19 : decode cX12_mayClose 19 = .ok (.ireturn, 1) := by decide +kernel
set_option maxRecDepth 20000 in
theorem kb_244_0 : ∀ q ∈ tb_244_0, s_atx 244 yX12_mayClose cX12_mayClose q.1 q.2 := (List.forall_mem_cons.mpr ⟨⟨s_ldAn dX12_mayClose_0 rfl, s_mo_ldA _ _⟩, (List.forall_mem_cons.mpr ⟨⟨s_ldAn dX12_mayClose_1 rfl, s_mo_ldA _ _⟩, (List.forall_mem_cons.mpr ⟨⟨s_sV mk_244 mk_157 ok_157 (by decide +kernel) dX12_mayClose_2 w_1633 w_1635 wp_70 (Or.inr ⟨8, _, _, rfl, rfl⟩), s_h0 mk_244⟩, (List.forall_mem_cons.mpr ⟨⟨s_ldIn dX12_mayClose_5 rfl, s_mo_ldI _ _⟩, (List.forall_mem_cons.mpr ⟨⟨s_iconst dX12_mayClose_6 (by decide +kernel), s_mo_push _ _⟩, (List.forall_mem_cons.mpr ⟨⟨s_ixor dX12_mayClose_7, s_mo_bin _ _⟩, (List.forall_mem_cons.mpr ⟨⟨s_iand dX12_mayClose_8, s_mo_bin _ _⟩, (List.forall_mem_cons.mpr ⟨⟨s_ldAn dX12_mayClose_9 rfl, s_mo_ldA _ _⟩, (List.forall_mem_cons.mpr ⟨⟨s_sV mk_244 mk_243 ok_243 (by decide +kernel) dX12_mayClose_10 w_1697 w_1699 wp_77 (Or.inr ⟨8, _, _, rfl, rfl⟩), s_h0 mk_244⟩, (List.forall_mem_cons.mpr ⟨⟨s_iconst dX12_mayClose_13 (by decide +kernel), s_mo_push _ _⟩, (List.forall_mem_cons.mpr ⟨⟨s_ixor dX12_mayClose_14, s_mo_bin _ _⟩, (List.forall_mem_cons.mpr ⟨⟨s_iand dX12_mayClose_15, s_mo_bin _ _⟩, (List.forall_mem_cons.mpr ⟨⟨s_sV mk_244 mk_242 ok_242 (by decide +kernel) dX12_mayClose_16 w_1701 w_1703 wp_78 (Or.inr ⟨8, _, _, rfl, rfl⟩), s_h0 mk_244⟩, (List.forall_mem_cons.mpr ⟨s_r2 mk_244 dX12_mayClose_19, (fun _ h => absurd h List.not_mem_nil)⟩)⟩)⟩)⟩)⟩)⟩)⟩)⟩)⟩)⟩)⟩)⟩)⟩)⟩)
theorem km_244 : ∀ t ∈ tm_244, s_tok 244 t := (List.forall_mem_cons.mpr ⟨s_lift mk_244 kb_244_0, (fun _ h => absurd h List.not_mem_nil)⟩)
theorem dX12_may_0 : decode cX12_may 0 = .ok (.aload_n 0, 1) := by decide +kernel
theorem dX12_may_1 : decode cX12_may 1 = .ok (.iconst 0, 1) := by decide +kernel
theorem dX12_may_2 : decode cX12_may 2 = .ok (.putfield 3, 3) := by decide +kernel
theorem dX12_may_5 : decode cX12_may 5 = .ok (.aload_n 0, 1) := by decide +kernel
theorem dX12_may_6 : decode cX12_may 6 = .ok (.iload_n 1, 1) := by decide +kernel
theorem dX12_may_7 : decode cX12_may 7 = .ok (.invokevirtual 362, 3) := by decide +kernel
theorem dX12_may_10 : decode cX12_may 10 = .ok (.ireturn, 1) := by decide +kernel
set_option maxRecDepth 20000 in
theorem kb_245_0 : ∀ q ∈ tb_245_0, s_atx 245 yX12_may cX12_may q.1 q.2 := (List.forall_mem_cons.mpr ⟨⟨s_ldAn dX12_may_0 rfl, s_mo_ldA _ _⟩, (List.forall_mem_cons.mpr ⟨⟨s_iconst dX12_may_1 (by decide +kernel), s_mo_push _ _⟩, (List.forall_mem_cons.mpr ⟨⟨s_putI (ci := 8) (k := 0) rfl (by decide) inX12 tyX12_ok nmX12 rfl rfl w_1221 dX12_may_2, s_mo_putI _ _ _⟩, (List.forall_mem_cons.mpr ⟨⟨s_ldAn dX12_may_5 rfl, s_mo_ldA _ _⟩, (List.forall_mem_cons.mpr ⟨⟨s_ldIn dX12_may_6 rfl, s_mo_ldI _ _⟩, (List.forall_mem_cons.mpr ⟨⟨s_sV mk_245 mk_244 ok_244 (by decide +kernel) dX12_may_7 w_1693 w_1695 wp_76 (Or.inr ⟨8, _, _, rfl, rfl⟩), s_h0 mk_245⟩, (List.forall_mem_cons.mpr ⟨s_r2 mk_245 dX12_may_10, (fun _ h => absurd h List.not_mem_nil)⟩)⟩)⟩)⟩)⟩)⟩)⟩)
theorem km_245 : ∀ t ∈ tm_245, s_tok 245 t := (List.forall_mem_cons.mpr ⟨s_lift mk_245 kb_245_0, (fun _ h => absurd h List.not_mem_nil)⟩)
theorem dX12_roundNow_0 : decode cX12_roundNow 0 = .ok (.iconst 0, 1) := by decide +kernel
theorem dX12_roundNow_1 : decode cX12_roundNow 1 = .ok (.istore_n 1, 1) := by decide +kernel
theorem dX12_roundNow_2 : decode cX12_roundNow 2 = .ok (.iconst 0, 1) := by decide +kernel
theorem dX12_roundNow_3 : decode cX12_roundNow 3 = .ok (.istore_n 2, 1) := by decide +kernel
theorem dX12_roundNow_4 : decode cX12_roundNow 4 = .ok (.iload_n 2, 1) := by decide +kernel
theorem dX12_roundNow_5 : decode cX12_roundNow 5 = .ok (.aload_n 0, 1) := by decide +kernel
theorem dX12_roundNow_6 : decode cX12_roundNow 6 = .ok (.invokevirtual 80, 3) := by decide +kernel
theorem dX12_roundNow_9 : decode cX12_roundNow 9 = .ok (.if_icmp .ge 37, 3) := by decide +kernel
theorem dX12_roundNow_12 : decode cX12_roundNow 12 = .ok (.iload_n 1, 1) := by decide +kernel
theorem dX12_roundNow_13 : decode cX12_roundNow 13 = .ok (.aload_n 0, 1) := by decide +kernel
theorem dX12_roundNow_14 : decode cX12_roundNow 14 = .ok (.iload_n 2, 1) := by decide +kernel
theorem dX12_roundNow_15 : decode cX12_roundNow 15 = .ok (.iconst 3, 1) := by decide +kernel
theorem dX12_roundNow_16 : decode cX12_roundNow 16 = .ok (.invokevirtual 88, 3) := by decide +kernel
theorem dX12_roundNow_19 : decode cX12_roundNow 19 = .ok (.ifCond .le 18, 3) := by decide +kernel
theorem dX12_roundNow_22 : decode cX12_roundNow 22 = .ok (.iload_n 1, 1) := by decide +kernel
theorem dX12_roundNow_23 : decode cX12_roundNow 23 = .ok (.invokestatic 326, 3) := by decide +kernel
theorem dX12_roundNow_26 : decode cX12_roundNow 26 = .ok (.bipush 10, 2) := by decide +kernel
theorem dX12_roundNow_28 : decode cX12_roundNow 28 = .ok (.if_icmp .ge 9, 3) := by decide +kernel
theorem dX12_roundNow_31 : decode cX12_roundNow 31 = .ok (.iconst 1, 1) := by decide +kernel
theorem dX12_roundNow_32 : decode cX12_roundNow 32 = .ok (.iload_n 2, 1) := by decide +kernel
theorem dX12_roundNow_33 : decode cX12_roundNow 33 = .ok (.ishl, 1) := by decide +kernel
theorem dX12_roundNow_34 : decode cX12_roundNow 34 = .ok (.goto 4, 3) := by decide +kernel
theorem dX12_roundNow_37 : decode cX12_roundNow 37 = .ok (.iconst 0, 1) := by decide +kernel
theorem dX12_roundNow_38 : decode cX12_roundNow 38 = .ok (.ior, 1) := by decide +kernel
theorem dX12_roundNow_39 : decode cX12_roundNow 39 = .ok (.istore_n 1, 1) := by decide +kernel
theorem dX12_roundNow_40 : decode cX12_roundNow 40 = .ok (.iinc 2 1, 3) := by decide +kernel
theorem dX12_roundNow_43 : decode cX12_roundNow 43 = .ok (.goto (-39), 3) := by decide +kernel
theorem dX12_roundNow_46 : decode cX12_roundNow 46 = .ok (.iconst 0, 1) := by decide +kernel
theorem dX12_roundNow_47 : decode cX12_roundNow 47 = .ok (.istore_n 2, 1) := by decide +kernel
theorem dX12_roundNow_48 : decode cX12_roundNow 48 = .ok (.iload_n 1, 1) := by decide +kernel
theorem dX12_roundNow_49 : decode cX12_roundNow 49 = .ok (.istore_n 3, 1) := by decide +kernel
theorem dX12_roundNow_50 : decode cX12_roundNow 50 = .ok (.iload_n 3, 1) := by decide +kernel
theorem dX12_roundNow_51 : decode cX12_roundNow 51 = .ok (.ifCond .le 51, 3) := by decide +kernel
theorem dX12_roundNow_54 : decode cX12_roundNow 54 = .ok (.iload_n 3, 1) := by decide +kernel
theorem dX12_roundNow_55 : decode cX12_roundNow 55 = .ok (.invokestatic 326, 3) := by decide +kernel
theorem dX12_roundNow_58 : decode cX12_roundNow 58 = .ok (.iload_n 2, 1) := by decide +kernel
theorem dX12_roundNow_59 : decode cX12_roundNow 59 = .ok (.invokestatic 326, 3) := by decide +kernel
theorem dX12_roundNow_62 : decode cX12_roundNow 62 = .ok (.isub, 1) := by decide +kernel
theorem dX12_roundNow_63 : decode cX12_roundNow 63 = .ok (.istore 4, 2) := by decide +kernel
theorem dX12_roundNow_65 : decode cX12_roundNow 65 = .ok (.iload 4, 2) := by decide +kernel
theorem dX12_roundNow_67 : decode cX12_roundNow 67 = .ok (.ifCond .lt 26, 3) := by decide +kernel
theorem dX12_roundNow_70 : decode cX12_roundNow 70 = .ok (.iload 4, 2) := by decide +kernel
theorem dX12_roundNow_72 : decode cX12_roundNow 72 = .ok (.ifCond .ne 8, 3) := by decide +kernel
theorem dX12_roundNow_75 : decode cX12_roundNow 75 = .ok (.iload_n 3, 1) := by decide +kernel
theorem dX12_roundNow_76 : decode cX12_roundNow 76 = .ok (.iload_n 2, 1) := by decide +kernel
theorem dX12_roundNow_77 : decode cX12_roundNow 77 = .ok (.if_icmp .gt 16, 3) := by decide +kernel
theorem dX12_roundNow_80 : decode cX12_roundNow 80 = .ok (.aload_n 0, 1) := by decide +kernel
theorem dX12_roundNow_81 : decode cX12_roundNow 81 = .ok (.iload_n 3, 1) := by decide +kernel
theorem dX12_roundNow_82 : decode cX12_roundNow 82 = .ok (.invokevirtual 362, 3) := by decide +kernel
theorem dX12_roundNow_85 : decode cX12_roundNow 85 = .ok (.ifCond .ne 6, 3) := by decide +kernel
theorem dX12_roundNow_88 : decode cX12_roundNow 88 = .ok (.goto 5, 3) := by decide +kernel
theorem dX12_roundNow_91 : decode cX12_roundNow 91 = .ok (.iload_n 3, 1) := by decide +kernel
theorem dX12_roundNow_92 : decode cX12_roundNow 92 = .ok (.istore_n 2, 1) := by decide +kernel
theorem dX12_roundNow_93 : decode cX12_roundNow 93 = .ok (.iload_n 3, 1) := by decide +kernel
theorem dX12_roundNow_94 : decode cX12_roundNow 94 = .ok (.iconst 1, 1) := by decide +kernel
theorem dX12_roundNow_95 : decode cX12_roundNow 95 = .ok (.isub, 1) := by decide +kernel
theorem dX12_roundNow_96 : decode cX12_roundNow 96 = .ok (.iload_n 1, 1) := by decide +kernel
theorem dX12_roundNow_97 : decode cX12_roundNow 97 = .ok (.iand, 1) := by decide +kernel
theorem dX12_roundNow_98 : decode cX12_roundNow 98 = .ok (.istore_n 3, 1) := by decide +kernel
theorem dX12_roundNow_99 : decode cX12_roundNow 99 = .ok (.goto (-49), 3) := by decide +kernel
theorem dX12_roundNow_102 : decode cX12_roundNow 102 = .ok (.iload_n 2, 1) := by decide +kernel
theorem dX12_roundNow_103 : decode cX12_roundNow 103 = .ok (.ireturn, 1) := by decide +kernel
set_option maxRecDepth 20000 in
theorem kb_246_0 : ∀ q ∈ tb_246_0, s_atx 246 yX12_roundNow cX12_roundNow q.1 q.2 := (List.forall_mem_cons.mpr ⟨⟨s_iconst dX12_roundNow_0 (by decide +kernel), s_mo_push _ _⟩, (List.forall_mem_cons.mpr ⟨⟨s_stIn dX12_roundNow_1 rfl, s_mo_stI _ _⟩, (List.forall_mem_cons.mpr ⟨⟨s_iconst dX12_roundNow_2 (by decide +kernel), s_mo_push _ _⟩, (List.forall_mem_cons.mpr ⟨⟨s_stIn dX12_roundNow_3 rfl, s_mo_stI _ _⟩, (List.forall_mem_cons.mpr ⟨⟨s_ldIn dX12_roundNow_4 rfl, s_mo_ldI _ _⟩, (List.forall_mem_cons.mpr ⟨⟨s_ldAn dX12_roundNow_5 rfl, s_mo_ldA _ _⟩, (List.forall_mem_cons.mpr ⟨⟨s_sV mk_246 mk_156 ok_156 (by decide +kernel) dX12_roundNow_6 w_1454 w_1456 wp_49 (Or.inr ⟨8, _, _, rfl, rfl⟩), s_h0 mk_246⟩, (List.forall_mem_cons.mpr ⟨⟨s_icge dX12_roundNow_9 (by decide), s_mo_icge _ _⟩, (List.forall_mem_cons.mpr ⟨⟨s_ldIn dX12_roundNow_12 rfl, s_mo_ldI _ _⟩, (List.forall_mem_cons.mpr ⟨⟨s_ldAn dX12_roundNow_13 rfl, s_mo_ldA _ _⟩, (List.forall_mem_cons.mpr ⟨⟨s_ldIn dX12_roundNow_14 rfl, s_mo_ldI _ _⟩, (List.forall_mem_cons.mpr ⟨⟨s_iconst dX12_roundNow_15 (by decide +kernel), s_mo_push _ _⟩, (List.forall_mem_cons.mpr ⟨⟨s_sV mk_246 mk_158 ok_158 (by decide +kernel) dX12_roundNow_16 w_1469 w_1471 wp_52 (Or.inr ⟨8, _, _, rfl, rfl⟩), s_h0 mk_246⟩, (List.forall_mem_cons.mpr ⟨⟨s_ifle dX12_roundNow_19 (by decide), s_mo_ifle _ _⟩, (List.forall_mem_cons.mpr ⟨⟨s_ldIn dX12_roundNow_22 rfl, s_mo_ldI _ _⟩, (List.forall_mem_cons.mpr ⟨⟨s_sS mk_246 mk_254 ok_254 (by decide +kernel) dX12_roundNow_23 w_1628 w_422, s_h0 mk_246⟩, (List.forall_mem_cons.mpr ⟨⟨s_bipush dX12_roundNow_26 (by decide +kernel), s_mo_push _ _⟩, (List.forall_mem_cons.mpr ⟨⟨s_icge dX12_roundNow_28 (by decide), s_mo_icge _ _⟩, (List.forall_mem_cons.mpr ⟨⟨s_iconst dX12_roundNow_31 (by decide +kernel), s_mo_push _ _⟩, (List.forall_mem_cons.mpr ⟨⟨s_ldIn dX12_roundNow_32 rfl, s_mo_ldI _ _⟩, (List.forall_mem_cons.mpr ⟨⟨s_ishl dX12_roundNow_33, s_mo_bin _ _⟩, (List.forall_mem_cons.mpr ⟨⟨s_goto dX12_roundNow_34 (by decide), s_mo_goto _⟩, (List.forall_mem_cons.mpr ⟨⟨s_iconst dX12_roundNow_37 (by decide +kernel), s_mo_push _ _⟩, (List.forall_mem_cons.mpr ⟨⟨s_ior dX12_roundNow_38, s_mo_bin _ _⟩, (List.forall_mem_cons.mpr ⟨⟨s_stIn dX12_roundNow_39 rfl, s_mo_stI _ _⟩, (List.forall_mem_cons.mpr ⟨⟨s_inc dX12_roundNow_40 (by decide +kernel), s_mo_inc _ _ _⟩, (List.forall_mem_cons.mpr ⟨⟨s_goto dX12_roundNow_43 (by decide), s_mo_goto _⟩, (List.forall_mem_cons.mpr ⟨⟨s_iconst dX12_roundNow_46 (by decide +kernel), s_mo_push _ _⟩, (List.forall_mem_cons.mpr ⟨⟨s_stIn dX12_roundNow_47 rfl, s_mo_stI _ _⟩, (List.forall_mem_cons.mpr ⟨⟨s_ldIn dX12_roundNow_48 rfl, s_mo_ldI _ _⟩, (List.forall_mem_cons.mpr ⟨⟨s_stIn dX12_roundNow_49 rfl, s_mo_stI _ _⟩, (List.forall_mem_cons.mpr ⟨⟨s_ldIn dX12_roundNow_50 rfl, s_mo_ldI _ _⟩, (List.forall_mem_cons.mpr ⟨⟨s_ifle dX12_roundNow_51 (by decide), s_mo_ifle _ _⟩, (List.forall_mem_cons.mpr ⟨⟨s_ldIn dX12_roundNow_54 rfl, s_mo_ldI _ _⟩, (List.forall_mem_cons.mpr ⟨⟨s_sS mk_246 mk_254 ok_254 (by decide +kernel) dX12_roundNow_55 w_1628 w_422, s_h0 mk_246⟩, (List.forall_mem_cons.mpr ⟨⟨s_ldIn dX12_roundNow_58 rfl, s_mo_ldI _ _⟩, (List.forall_mem_cons.mpr ⟨⟨s_sS mk_246 mk_254 ok_254 (by decide +kernel) dX12_roundNow_59 w_1628 w_422, s_h0 mk_246⟩, (List.forall_mem_cons.mpr ⟨⟨s_isub dX12_roundNow_62, s_mo_bin _ _⟩, (List.forall_mem_cons.mpr ⟨⟨s_stI dX12_roundNow_63, s_mo_stI _ _⟩, (fun _ h => absurd h List.not_mem_nil)⟩)⟩)⟩)⟩)⟩)⟩)⟩)⟩)⟩)⟩)⟩)⟩)⟩)⟩)⟩)⟩)⟩)⟩)⟩)⟩)⟩)⟩)⟩)⟩)⟩)⟩)⟩)⟩)⟩)⟩)⟩)⟩)⟩)⟩)⟩)⟩)⟩)⟩)⟩)
set_option maxRecDepth 20000 in
theorem kb_246_1 : ∀ q ∈ tb_246_1, s_atx 246 yX12_roundNow cX12_roundNow q.1 q.2 := (List.forall_mem_cons.mpr ⟨⟨s_ldI dX12_roundNow_65, s_mo_ldI _ _⟩, (List.forall_mem_cons.mpr ⟨⟨s_iflt dX12_roundNow_67 (by decide), s_mo_iflt _ _⟩, (List.forall_mem_cons.mpr ⟨⟨s_ldI dX12_roundNow_70, s_mo_ldI _ _⟩, (List.forall_mem_cons.mpr ⟨⟨s_ifne dX12_roundNow_72 (by decide), s_mo_ifne _ _⟩, (List.forall_mem_cons.mpr ⟨⟨s_ldIn dX12_roundNow_75 rfl, s_mo_ldI _ _⟩, (List.forall_mem_cons.mpr ⟨⟨s_ldIn dX12_roundNow_76 rfl, s_mo_ldI _ _⟩, (List.forall_mem_cons.mpr ⟨⟨s_icgt dX12_roundNow_77 (by decide), s_mo_icgt _ _⟩, (List.forall_mem_cons.mpr ⟨⟨s_ldAn dX12_roundNow_80 rfl, s_mo_ldA _ _⟩, (List.forall_mem_cons.mpr ⟨⟨s_ldIn dX12_roundNow_81 rfl, s_mo_ldI _ _⟩, (List.forall_mem_cons.mpr ⟨⟨s_sV mk_246 mk_244 ok_244 (by decide +kernel) dX12_roundNow_82 w_1693 w_1695 wp_76 (Or.inr ⟨8, _, _, rfl, rfl⟩), s_h0 mk_246⟩, (List.forall_mem_cons.mpr ⟨⟨s_ifne dX12_roundNow_85 (by decide), s_mo_ifne _ _⟩, (List.forall_mem_cons.mpr ⟨⟨s_goto dX12_roundNow_88 (by decide), s_mo_goto _⟩, (List.forall_mem_cons.mpr ⟨⟨s_ldIn dX12_roundNow_91 rfl, s_mo_ldI _ _⟩, (List.forall_mem_cons.mpr ⟨⟨s_stIn dX12_roundNow_92 rfl, s_mo_stI _ _⟩, (List.forall_mem_cons.mpr ⟨⟨s_ldIn dX12_roundNow_93 rfl, s_mo_ldI _ _⟩, (List.forall_mem_cons.mpr ⟨⟨s_iconst dX12_roundNow_94 (by decide +kernel), s_mo_push _ _⟩, (List.forall_mem_cons.mpr ⟨⟨s_isub dX12_roundNow_95, s_mo_bin _ _⟩, (List.forall_mem_cons.mpr ⟨⟨s_ldIn dX12_roundNow_96 rfl, s_mo_ldI _ _⟩, (List.forall_mem_cons.mpr ⟨⟨s_iand dX12_roundNow_97, s_mo_bin _ _⟩, (List.forall_mem_cons.mpr ⟨⟨s_stIn dX12_roundNow_98 rfl, s_mo_stI _ _⟩, (List.forall_mem_cons.mpr ⟨⟨s_goto dX12_roundNow_99 (by decide), s_mo_goto _⟩, (List.forall_mem_cons.mpr ⟨⟨s_ldIn dX12_roundNow_102 rfl, s_mo_ldI _ _⟩, (List.forall_mem_cons.mpr ⟨s_r1 mk_246 dX12_roundNow_103, (fun _ h => absurd h List.not_mem_nil)⟩)⟩)⟩)⟩)⟩)⟩)⟩)⟩)⟩)⟩)⟩)⟩)⟩)⟩)⟩)⟩)⟩)⟩)⟩)⟩)⟩)⟩)⟩)
theorem km_246 : ∀ t ∈ tm_246, s_tok 246 t := (List.forall_mem_cons.mpr ⟨s_lift mk_246 kb_246_0, (List.forall_mem_cons.mpr ⟨s_lift mk_246 kb_246_1, (fun _ h => absurd h List.not_mem_nil)⟩)⟩)
theorem dX12_round_0 : decode cX12_round 0 = .ok (.aload_n 0, 1) := by decide +kernel
theorem dX12_round_1 : decode cX12_round 1 = .ok (.iconst 0, 1) := by decide +kernel
theorem dX12_round_2 : decode cX12_round 2 = .ok (.putfield 3, 3) := by decide +kernel
theorem dX12_round_5 : decode cX12_round 5 = .ok (.aload_n 0, 1) := by decide +kernel
theorem dX12_round_6 : decode cX12_round 6 = .ok (.invokevirtual 365, 3) := by decide +kernel
theorem dX12_round_9 : decode cX12_round 9 = .ok (.ireturn, 1) := by decide +kernel
set_option maxRecDepth 20000 in
theorem kb_247_0 : ∀ q ∈ tb_247_0, s_atx 247 yX12_round cX12_round q.1 q.2 := (List.forall_mem_cons.mpr ⟨⟨s_ldAn dX12_round_0 rfl, s_mo_ldA _ _⟩, (List.forall_mem_cons.mpr ⟨⟨s_iconst dX12_round_1 (by decide +kernel), s_mo_push _ _⟩, (List.forall_mem_cons.mpr ⟨⟨s_putI (ci := 8) (k := 0) rfl (by decide) inX12 tyX12_ok nmX12 rfl rfl w_1221 dX12_round_2, s_mo_putI _ _ _⟩, (List.forall_mem_cons.mpr ⟨⟨s_ldAn dX12_round_5 rfl, s_mo_ldA _ _⟩, (List.forall_mem_cons.mpr ⟨⟨s_sV mk_247 mk_246 ok_246 (by decide +kernel) dX12_round_6 w_1709 w_1711 wp_79 (Or.inr ⟨8, _, _, rfl, rfl⟩), s_h0 mk_247⟩, (List.forall_mem_cons.mpr ⟨s_r1 mk_247 dX12_round_9, (fun _ h => absurd h List.not_mem_nil)⟩)⟩)⟩)⟩)⟩)⟩)
theorem km_247 : ∀ t ∈ tm_247, s_tok 247 t := (List.forall_mem_cons.mpr ⟨s_lift mk_247 kb_247_0, (fun _ h => absurd h List.not_mem_nil)⟩)
theorem dX12_mends_0 : decode cX12_mends 0 = .ok (.iconst 0, 1) := by decide +kernel
theorem dX12_mends_1 : decode cX12_mends 1 = .ok (.istore_n 2, 1) := by decide +kernel
theorem dX12_mends_2 : decode cX12_mends 2 = .ok (.iconst 0, 1) := by decide +kernel
theorem dX12_mends_3 : decode cX12_mends 3 = .ok (.istore_n 3, 1) := by decide +kernel
theorem dX12_mends_4 : decode cX12_mends 4 = .ok (.iload_n 3, 1) := by decide +kernel
theorem dX12_mends_5 : decode cX12_mends 5 = .ok (.aload_n 0, 1) := by decide +kernel
theorem dX12_mends_6 : decode cX12_mends 6 = .ok (.invokevirtual 80, 3) := by decide +kernel
theorem dX12_mends_9 : decode cX12_mends 9 = .ok (.if_icmp .ge 36, 3) := by decide +kernel
theorem dX12_mends_12 : decode cX12_mends 12 = .ok (.iload_n 1, 1) := by decide +kernel
theorem dX12_mends_13 : decode cX12_mends 13 = .ok (.iload_n 3, 1) := by decide +kernel
theorem dX12_mends_14 : decode cX12_mends 14 = .ok (.invokestatic 304, 3) := by decide +kernel
theorem dX12_mends_17 : decode cX12_mends 17 = .ok (.ifCond .ne 6, 3) := by decide +kernel
theorem dX12_mends_20 : decode cX12_mends 20 = .ok (.goto 19, 3) := by decide +kernel
theorem dX12_mends_23 : decode cX12_mends 23 = .ok (.iload_n 2, 1) := by decide +kernel
theorem dX12_mends_24 : decode cX12_mends 24 = .ok (.aload_n 0, 1) := by decide +kernel
theorem dX12_mends_25 : decode cX12_mends 25 = .ok (.iload_n 3, 1) := by decide +kernel
theorem dX12_mends_26 : decode cX12_mends 26 = .ok (.iconst 3, 1) := by decide +kernel
theorem dX12_mends_27 : decode cX12_mends 27 = .ok (.invokevirtual 88, 3) := by decide +kernel
theorem dX12_mends_30 : decode cX12_mends 30 = .ok (.iadd, 1) := by decide +kernel
theorem dX12_mends_31 : decode cX12_mends 31 = .ok (.istore_n 2, 1) := by decide +kernel
theorem dX12_mends_32 : decode cX12_mends 32 = .ok (.aload_n 0, 1) := by decide +kernel
theorem dX12_mends_33 : decode cX12_mends 33 = .ok (.iload_n 3, 1) := by decide +kernel
theorem dX12_mends_34 : decode cX12_mends 34 = .ok (.iconst 3, 1) := by decide +kernel
theorem dX12_mends_35 : decode cX12_mends 35 = .ok (.iconst 0, 1) := by decide +kernel
theorem dX12_mends_36 : decode cX12_mends 36 = .ok (.invokevirtual 69, 3) := by decide +kernel
theorem dX12_mends_39 : decode cX12_mends 39 = .ok (.iinc 3 1, 3) := by decide +kernel
theorem dX12_mends_42 : decode cX12_mends 42 = .ok (.goto (-38), 3) := by decide +kernel
theorem dX12_mends_45 : decode cX12_mends 45 = .ok (.iload_n 2, 1) := by decide +kernel
theorem dX12_mends_46 : decode cX12_mends 46 = .ok (.ireturn, 1) := by decide +kernel
set_option maxRecDepth 20000 in
theorem kb_248_0 : ∀ q ∈ tb_248_0, s_atx 248 yX12_mends cX12_mends q.1 q.2 := (List.forall_mem_cons.mpr ⟨⟨s_iconst dX12_mends_0 (by decide +kernel), s_mo_push _ _⟩, (List.forall_mem_cons.mpr ⟨⟨s_stIn dX12_mends_1 rfl, s_mo_stI _ _⟩, (List.forall_mem_cons.mpr ⟨⟨s_iconst dX12_mends_2 (by decide +kernel), s_mo_push _ _⟩, (List.forall_mem_cons.mpr ⟨⟨s_stIn dX12_mends_3 rfl, s_mo_stI _ _⟩, (List.forall_mem_cons.mpr ⟨⟨s_ldIn dX12_mends_4 rfl, s_mo_ldI _ _⟩, (List.forall_mem_cons.mpr ⟨⟨s_ldAn dX12_mends_5 rfl, s_mo_ldA _ _⟩, (List.forall_mem_cons.mpr ⟨⟨s_sV mk_248 mk_156 ok_156 (by decide +kernel) dX12_mends_6 w_1454 w_1456 wp_49 (Or.inr ⟨8, _, _, rfl, rfl⟩), s_h0 mk_248⟩, (List.forall_mem_cons.mpr ⟨⟨s_icge dX12_mends_9 (by decide), s_mo_icge _ _⟩, (List.forall_mem_cons.mpr ⟨⟨s_ldIn dX12_mends_12 rfl, s_mo_ldI _ _⟩, (List.forall_mem_cons.mpr ⟨⟨s_ldIn dX12_mends_13 rfl, s_mo_ldI _ _⟩, (List.forall_mem_cons.mpr ⟨⟨s_sS mk_248 mk_164 ok_164 (by decide +kernel) dX12_mends_14 w_1593 w_1594, s_h0 mk_248⟩, (List.forall_mem_cons.mpr ⟨⟨s_ifne dX12_mends_17 (by decide), s_mo_ifne _ _⟩, (List.forall_mem_cons.mpr ⟨⟨s_goto dX12_mends_20 (by decide), s_mo_goto _⟩, (List.forall_mem_cons.mpr ⟨⟨s_ldIn dX12_mends_23 rfl, s_mo_ldI _ _⟩, (List.forall_mem_cons.mpr ⟨⟨s_ldAn dX12_mends_24 rfl, s_mo_ldA _ _⟩, (List.forall_mem_cons.mpr ⟨⟨s_ldIn dX12_mends_25 rfl, s_mo_ldI _ _⟩, (List.forall_mem_cons.mpr ⟨⟨s_iconst dX12_mends_26 (by decide +kernel), s_mo_push _ _⟩, (List.forall_mem_cons.mpr ⟨⟨s_sV mk_248 mk_158 ok_158 (by decide +kernel) dX12_mends_27 w_1469 w_1471 wp_52 (Or.inr ⟨8, _, _, rfl, rfl⟩), s_h0 mk_248⟩, (List.forall_mem_cons.mpr ⟨⟨s_iadd dX12_mends_30, s_mo_bin _ _⟩, (List.forall_mem_cons.mpr ⟨⟨s_stIn dX12_mends_31 rfl, s_mo_stI _ _⟩, (List.forall_mem_cons.mpr ⟨⟨s_ldAn dX12_mends_32 rfl, s_mo_ldA _ _⟩, (List.forall_mem_cons.mpr ⟨⟨s_ldIn dX12_mends_33 rfl, s_mo_ldI _ _⟩, (List.forall_mem_cons.mpr ⟨⟨s_iconst dX12_mends_34 (by decide +kernel), s_mo_push _ _⟩, (List.forall_mem_cons.mpr ⟨⟨s_iconst dX12_mends_35 (by decide +kernel), s_mo_push _ _⟩, (List.forall_mem_cons.mpr ⟨⟨s_sV mk_248 mk_159 ok_159 (by decide +kernel) dX12_mends_36 w_1217 w_1219 wp_24 (Or.inr ⟨8, _, _, rfl, rfl⟩), s_h0 mk_248⟩, (List.forall_mem_cons.mpr ⟨⟨s_inc dX12_mends_39 (by decide +kernel), s_mo_inc _ _ _⟩, (List.forall_mem_cons.mpr ⟨⟨s_goto dX12_mends_42 (by decide), s_mo_goto _⟩, (List.forall_mem_cons.mpr ⟨⟨s_ldIn dX12_mends_45 rfl, s_mo_ldI _ _⟩, (List.forall_mem_cons.mpr ⟨s_r1 mk_248 dX12_mends_46, (fun _ h => absurd h List.not_mem_nil)⟩)⟩)⟩)⟩)⟩)⟩)⟩)⟩)⟩)⟩)⟩)⟩)⟩)⟩)⟩)⟩)⟩)⟩)⟩)⟩)⟩)⟩)⟩)⟩)⟩)⟩)⟩)⟩)⟩)
theorem km_248 : ∀ t ∈ tm_248, s_tok 248 t := (List.forall_mem_cons.mpr ⟨s_lift mk_248 kb_248_0, (fun _ h => absurd h List.not_mem_nil)⟩)
theorem dX12_mend_0 : decode cX12_mend 0 = .ok (.aload_n 0, 1) := by decide +kernel
theorem dX12_mend_1 : decode cX12_mend 1 = .ok (.iconst 0, 1) := by decide +kernel
theorem dX12_mend_2 : decode cX12_mend 2 = .ok (.putfield 3, 3) := by decide +kernel
theorem dX12_mend_5 : decode cX12_mend 5 = .ok (.aload_n 0, 1) := by decide +kernel
theorem dX12_mend_6 : decode cX12_mend 6 = .ok (.invokevirtual 267, 3) := by decide +kernel
theorem dX12_mend_9 : decode cX12_mend 9 = .ok (.aload_n 0, 1) := by decide +kernel
theorem dX12_mend_10 : decode cX12_mend 10 = .ok (.aload_n 0, 1) := by decide +kernel
theorem dX12_mend_11 : decode cX12_mend 11 = .ok (.invokevirtual 365, 3) := by decide +kernel
theorem dX12_mend_14 : decode cX12_mend 14 = .ok (.invokevirtual 368, 3) := by decide +kernel
theorem dX12_mend_17 : decode cX12_mend 17 = .ok (.ireturn, 1) := by decide +kernel
set_option maxRecDepth 20000 in
theorem kb_249_0 : ∀ q ∈ tb_249_0, s_atx 249 yX12_mend cX12_mend q.1 q.2 := (List.forall_mem_cons.mpr ⟨⟨s_ldAn dX12_mend_0 rfl, s_mo_ldA _ _⟩, (List.forall_mem_cons.mpr ⟨⟨s_iconst dX12_mend_1 (by decide +kernel), s_mo_push _ _⟩, (List.forall_mem_cons.mpr ⟨⟨s_putI (ci := 8) (k := 0) rfl (by decide) inX12 tyX12_ok nmX12 rfl rfl w_1221 dX12_mend_2, s_mo_putI _ _ _⟩, (List.forall_mem_cons.mpr ⟨⟨s_ldAn dX12_mend_5 rfl, s_mo_ldA _ _⟩, (List.forall_mem_cons.mpr ⟨⟨s_sV mk_249 mk_199 ok_199 (by decide +kernel) dX12_mend_6 w_1491 w_1493 wp_54 (Or.inr ⟨8, _, _, rfl, rfl⟩), s_h0 mk_249⟩, (List.forall_mem_cons.mpr ⟨⟨s_ldAn dX12_mend_9 rfl, s_mo_ldA _ _⟩, (List.forall_mem_cons.mpr ⟨⟨s_ldAn dX12_mend_10 rfl, s_mo_ldA _ _⟩, (List.forall_mem_cons.mpr ⟨⟨s_sV mk_249 mk_246 ok_246 (by decide +kernel) dX12_mend_11 w_1709 w_1711 wp_79 (Or.inr ⟨8, _, _, rfl, rfl⟩), s_h0 mk_249⟩, (List.forall_mem_cons.mpr ⟨⟨s_sV mk_249 mk_248 ok_248 (by decide +kernel) dX12_mend_14 w_1717 w_1719 wp_80 (Or.inr ⟨8, _, _, rfl, rfl⟩), s_h0 mk_249⟩, (List.forall_mem_cons.mpr ⟨s_r1 mk_249 dX12_mend_17, (fun _ h => absurd h List.not_mem_nil)⟩)⟩)⟩)⟩)⟩)⟩)⟩)⟩)⟩)⟩)
theorem km_249 : ∀ t ∈ tm_249, s_tok 249 t := (List.forall_mem_cons.mpr ⟨s_lift mk_249 kb_249_0, (fun _ h => absurd h List.not_mem_nil)⟩)
theorem dX12_rounds_0 : decode cX12_rounds 0 = .ok (.aload_n 0, 1) := by decide +kernel
theorem dX12_rounds_1 : decode cX12_rounds 1 = .ok (.iconst 0, 1) := by decide +kernel
theorem dX12_rounds_2 : decode cX12_rounds 2 = .ok (.putfield 3, 3) := by decide +kernel
theorem dX12_rounds_5 : decode cX12_rounds 5 = .ok (.iconst 0, 1) := by decide +kernel
theorem dX12_rounds_6 : decode cX12_rounds 6 = .ok (.istore_n 1, 1) := by decide +kernel
theorem dX12_rounds_7 : decode cX12_rounds 7 = .ok (.iload_n 1, 1) := by decide +kernel
theorem dX12_rounds_8 : decode cX12_rounds 8 = .ok (.bipush 30, 2) := by decide +kernel
theorem dX12_rounds_10 : decode cX12_rounds 10 = .ok (.if_icmp .ge 21, 3) := by decide +kernel
theorem dX12_rounds_13 : decode cX12_rounds 13 = .ok (.aload_n 0, 1) := by decide +kernel
theorem dX12_rounds_14 : decode cX12_rounds 14 = .ok (.getfield 57, 3) := by decide +kernel
theorem dX12_rounds_17 : decode cX12_rounds 17 = .ok (.iload_n 1, 1) := by decide +kernel
theorem dX12_rounds_18 : decode cX12_rounds 18 = .ok (.aload_n 0, 1) := by decide +kernel
theorem dX12_rounds_19 : decode cX12_rounds 19 = .ok (.iload_n 1, 1) := by decide +kernel
theorem dX12_rounds_20 : decode cX12_rounds 20 = .ok (.iconst 3, 1) := by decide +kernel
theorem dX12_rounds_21 : decode cX12_rounds 21 = .ok (.invokevirtual 88, 3) := by decide +kernel
theorem dX12_rounds_24 : decode cX12_rounds 24 = .ok (.iastore, 1) := by decide +kernel
theorem dX12_rounds_25 : decode cX12_rounds 25 = .ok (.iinc 1 1, 3) := by decide +kernel
theorem dX12_rounds_28 : decode cX12_rounds 28 = .ok (.goto (-21), 3) := by decide +kernel
theorem dX12_rounds_31 : decode cX12_rounds 31 = .ok (.iconst 0, 1) := by decide +kernel
theorem dX12_rounds_32 : decode cX12_rounds 32 = .ok (.istore_n 1, 1) := by decide +kernel
theorem dX12_rounds_33 : decode cX12_rounds 33 = .ok (.aload_n 0, 1) := by decide +kernel
theorem dX12_rounds_34 : decode cX12_rounds 34 = .ok (.invokevirtual 365, 3) := by decide +kernel
theorem dX12_rounds_37 : decode cX12_rounds 37 = .ok (.istore_n 2, 1) := by decide +kernel
theorem dX12_rounds_38 : decode cX12_rounds 38 = .ok (.iload_n 2, 1) := by decide +kernel
theorem dX12_rounds_39 : decode cX12_rounds 39 = .ok (.ifCond .eq 20, 3) := by decide +kernel
theorem dX12_rounds_42 : decode cX12_rounds 42 = .ok (.aload_n 0, 1) := by decide +kernel
theorem dX12_rounds_43 : decode cX12_rounds 43 = .ok (.iload_n 2, 1) := by decide +kernel
theorem dX12_rounds_44 : decode cX12_rounds 44 = .ok (.invokevirtual 368, 3) := by decide +kernel
theorem dX12_rounds_47 : decode cX12_rounds 47 = .ok (.pop, 1) := by decide +kernel
theorem dX12_rounds_48 : decode cX12_rounds 48 = .ok (.iinc 1 1, 3) := by decide +kernel
theorem dX12_rounds_51 : decode cX12_rounds 51 = .ok (.aload_n 0, 1) := by decide +kernel
theorem dX12_rounds_52 : decode cX12_rounds 52 = .ok (.invokevirtual 365, 3) := by decide +kernel
theorem dX12_rounds_55 : decode cX12_rounds 55 = .ok (.istore_n 2, 1) := by decide +kernel
theorem dX12_rounds_56 : decode cX12_rounds 56 = .ok (.goto (-18), 3) := by decide +kernel
theorem dX12_rounds_59 : decode cX12_rounds 59 = .ok (.iconst 0, 1) := by decide +kernel
theorem dX12_rounds_60 : decode cX12_rounds 60 = .ok (.istore_n 2, 1) := by decide +kernel
theorem dX12_rounds_61 : decode cX12_rounds 61 = .ok (.iload_n 2, 1) := by decide +kernel
theorem dX12_rounds_62 : decode cX12_rounds 62 = .ok (.bipush 30, 2) := by decide +kernel
theorem dX12_rounds_64 : decode cX12_rounds 64 = .ok (.if_icmp .ge 21, 3) := by decide +kernel
theorem dX12_rounds_67 : decode cX12_rounds 67 = .ok (.aload_n 0, 1) := by decide +kernel
theorem dX12_rounds_68 : decode cX12_rounds 68 = .ok (.iload_n 2, 1) := by decide +kernel
theorem dX12_rounds_69 : decode cX12_rounds 69 = .ok (.iconst 3, 1) := by decide +kernel
theorem dX12_rounds_70 : decode cX12_rounds 70 = .ok (.aload_n 0, 1) := by decide +kernel
theorem dX12_rounds_71 : decode cX12_rounds 71 = .ok (.getfield 57, 3) := by decide +kernel
theorem dX12_rounds_74 : decode cX12_rounds 74 = .ok (.iload_n 2, 1) := by decide +kernel
theorem dX12_rounds_75 : decode cX12_rounds 75 = .ok (.iaload, 1) := by decide +kernel
theorem dX12_rounds_76 : decode cX12_rounds 76 = .ok (.invokevirtual 69, 3) := by decide +kernel
theorem dX12_rounds_79 : decode cX12_rounds 79 = .ok (.iinc 2 1, 3) := by decide +kernel
theorem dX12_rounds_82 : decode cX12_rounds 82 = .ok (.goto (-21), 3) := by decide +kernel
theorem dX12_rounds_85 : decode cX12_rounds 85 = .ok (.iload_n 1, 1) := by decide +kernel
theorem dX12_rounds_86 : decode cX12_rounds 86 = .ok (.ireturn, 1) := by decide +kernel
set_option maxRecDepth 20000 in
theorem kb_250_0 : ∀ q ∈ tb_250_0, s_atx 250 yX12_rounds cX12_rounds q.1 q.2 := (List.forall_mem_cons.mpr ⟨⟨s_ldAn dX12_rounds_0 rfl, s_mo_ldA _ _⟩, (List.forall_mem_cons.mpr ⟨⟨s_iconst dX12_rounds_1 (by decide +kernel), s_mo_push _ _⟩, (List.forall_mem_cons.mpr ⟨⟨s_putI (ci := 8) (k := 0) rfl (by decide) inX12 tyX12_ok nmX12 rfl rfl w_1221 dX12_rounds_2, s_mo_putI _ _ _⟩, (List.forall_mem_cons.mpr ⟨⟨s_iconst dX12_rounds_5 (by decide +kernel), s_mo_push _ _⟩, (List.forall_mem_cons.mpr ⟨⟨s_stIn dX12_rounds_6 rfl, s_mo_stI _ _⟩, (List.forall_mem_cons.mpr ⟨⟨s_ldIn dX12_rounds_7 rfl, s_mo_ldI _ _⟩, (List.forall_mem_cons.mpr ⟨⟨s_bipush dX12_rounds_8 (by decide +kernel), s_mo_push _ _⟩, (List.forall_mem_cons.mpr ⟨⟨s_icge dX12_rounds_10 (by decide), s_mo_icge _ _⟩, (List.forall_mem_cons.mpr ⟨⟨s_ldAn dX12_rounds_13 rfl, s_mo_ldA _ _⟩, (List.forall_mem_cons.mpr ⟨⟨s_getf (ci := 8) (k := 24) rfl (by decide) inX12 w_1245 dX12_rounds_14, s_mo_getf _ _ _⟩, (List.forall_mem_cons.mpr ⟨⟨s_ldIn dX12_rounds_17 rfl, s_mo_ldI _ _⟩, (List.forall_mem_cons.mpr ⟨⟨s_ldAn dX12_rounds_18 rfl, s_mo_ldA _ _⟩, (List.forall_mem_cons.mpr ⟨⟨s_ldIn dX12_rounds_19 rfl, s_mo_ldI _ _⟩, (List.forall_mem_cons.mpr ⟨⟨s_iconst dX12_rounds_20 (by decide +kernel), s_mo_push _ _⟩, (List.forall_mem_cons.mpr ⟨⟨s_sV mk_250 mk_158 ok_158 (by decide +kernel) dX12_rounds_21 w_1469 w_1471 wp_52 (Or.inr ⟨8, _, _, rfl, rfl⟩), s_h0 mk_250⟩, (List.forall_mem_cons.mpr ⟨⟨s_iast dX12_rounds_24, s_mo_iast _⟩, (List.forall_mem_cons.mpr ⟨⟨s_inc dX12_rounds_25 (by decide +kernel), s_mo_inc _ _ _⟩, (List.forall_mem_cons.mpr ⟨⟨s_goto dX12_rounds_28 (by decide), s_mo_goto _⟩, (List.forall_mem_cons.mpr ⟨⟨s_iconst dX12_rounds_31 (by decide +kernel), s_mo_push _ _⟩, (List.forall_mem_cons.mpr ⟨⟨s_stIn dX12_rounds_32 rfl, s_mo_stI _ _⟩, (List.forall_mem_cons.mpr ⟨⟨s_ldAn dX12_rounds_33 rfl, s_mo_ldA _ _⟩, (List.forall_mem_cons.mpr ⟨⟨s_sV mk_250 mk_246 ok_246 (by decide +kernel) dX12_rounds_34 w_1709 w_1711 wp_79 (Or.inr ⟨8, _, _, rfl, rfl⟩), s_h0 mk_250⟩, (List.forall_mem_cons.mpr ⟨⟨s_stIn dX12_rounds_37 rfl, s_mo_stI _ _⟩, (List.forall_mem_cons.mpr ⟨⟨s_ldIn dX12_rounds_38 rfl, s_mo_ldI _ _⟩, (List.forall_mem_cons.mpr ⟨⟨s_ifeq dX12_rounds_39 (by decide), s_mo_ifeq _ _⟩, (List.forall_mem_cons.mpr ⟨⟨s_ldAn dX12_rounds_42 rfl, s_mo_ldA _ _⟩, (List.forall_mem_cons.mpr ⟨⟨s_ldIn dX12_rounds_43 rfl, s_mo_ldI _ _⟩, (List.forall_mem_cons.mpr ⟨⟨s_sV mk_250 mk_248 ok_248 (by decide +kernel) dX12_rounds_44 w_1717 w_1719 wp_80 (Or.inr ⟨8, _, _, rfl, rfl⟩), s_h0 mk_250⟩, (List.forall_mem_cons.mpr ⟨⟨s_pop dX12_rounds_47, s_mo_pop _⟩, (List.forall_mem_cons.mpr ⟨⟨s_inc dX12_rounds_48 (by decide +kernel), s_mo_inc _ _ _⟩, (List.forall_mem_cons.mpr ⟨⟨s_ldAn dX12_rounds_51 rfl, s_mo_ldA _ _⟩, (List.forall_mem_cons.mpr ⟨⟨s_sV mk_250 mk_246 ok_246 (by decide +kernel) dX12_rounds_52 w_1709 w_1711 wp_79 (Or.inr ⟨8, _, _, rfl, rfl⟩), s_h0 mk_250⟩, (List.forall_mem_cons.mpr ⟨⟨s_stIn dX12_rounds_55 rfl, s_mo_stI _ _⟩, (List.forall_mem_cons.mpr ⟨⟨s_goto dX12_rounds_56 (by decide), s_mo_goto _⟩, (List.forall_mem_cons.mpr ⟨⟨s_iconst dX12_rounds_59 (by decide +kernel), s_mo_push _ _⟩, (List.forall_mem_cons.mpr ⟨⟨s_stIn dX12_rounds_60 rfl, s_mo_stI _ _⟩, (List.forall_mem_cons.mpr ⟨⟨s_ldIn dX12_rounds_61 rfl, s_mo_ldI _ _⟩, (List.forall_mem_cons.mpr ⟨⟨s_bipush dX12_rounds_62 (by decide +kernel), s_mo_push _ _⟩, (fun _ h => absurd h List.not_mem_nil)⟩)⟩)⟩)⟩)⟩)⟩)⟩)⟩)⟩)⟩)⟩)⟩)⟩)⟩)⟩)⟩)⟩)⟩)⟩)⟩)⟩)⟩)⟩)⟩)⟩)⟩)⟩)⟩)⟩)⟩)⟩)⟩)⟩)⟩)⟩)⟩)⟩)⟩)
set_option maxRecDepth 20000 in
theorem kb_250_1 : ∀ q ∈ tb_250_1, s_atx 250 yX12_rounds cX12_rounds q.1 q.2 := (List.forall_mem_cons.mpr ⟨⟨s_icge dX12_rounds_64 (by decide), s_mo_icge _ _⟩, (List.forall_mem_cons.mpr ⟨⟨s_ldAn dX12_rounds_67 rfl, s_mo_ldA _ _⟩, (List.forall_mem_cons.mpr ⟨⟨s_ldIn dX12_rounds_68 rfl, s_mo_ldI _ _⟩, (List.forall_mem_cons.mpr ⟨⟨s_iconst dX12_rounds_69 (by decide +kernel), s_mo_push _ _⟩, (List.forall_mem_cons.mpr ⟨⟨s_ldAn dX12_rounds_70 rfl, s_mo_ldA _ _⟩, (List.forall_mem_cons.mpr ⟨⟨s_getf (ci := 8) (k := 24) rfl (by decide) inX12 w_1245 dX12_rounds_71, s_mo_getf _ _ _⟩, (List.forall_mem_cons.mpr ⟨⟨s_ldIn dX12_rounds_74 rfl, s_mo_ldI _ _⟩, (List.forall_mem_cons.mpr ⟨⟨s_iald dX12_rounds_75, s_mo_iald _⟩, (List.forall_mem_cons.mpr ⟨⟨s_sV mk_250 mk_159 ok_159 (by decide +kernel) dX12_rounds_76 w_1217 w_1219 wp_24 (Or.inr ⟨8, _, _, rfl, rfl⟩), s_h0 mk_250⟩, (List.forall_mem_cons.mpr ⟨⟨s_inc dX12_rounds_79 (by decide +kernel), s_mo_inc _ _ _⟩, (List.forall_mem_cons.mpr ⟨⟨s_goto dX12_rounds_82 (by decide), s_mo_goto _⟩, (List.forall_mem_cons.mpr ⟨⟨s_ldIn dX12_rounds_85 rfl, s_mo_ldI _ _⟩, (List.forall_mem_cons.mpr ⟨s_r1 mk_250 dX12_rounds_86, (fun _ h => absurd h List.not_mem_nil)⟩)⟩)⟩)⟩)⟩)⟩)⟩)⟩)⟩)⟩)⟩)⟩)⟩)
theorem km_250 : ∀ t ∈ tm_250, s_tok 250 t := (List.forall_mem_cons.mpr ⟨s_lift mk_250 kb_250_0, (List.forall_mem_cons.mpr ⟨s_lift mk_250 kb_250_1, (fun _ h => absurd h List.not_mem_nil)⟩)⟩)
theorem dX12_isLit_0 : decode cX12_isLit 0 = .ok (.iconst 1, 1) := by decide +kernel
theorem dX12_isLit_1 : decode cX12_isLit 1 = .ok (.istore_n 3, 1) := by decide +kernel
theorem dX12_isLit_2 : decode cX12_isLit 2 = .ok (.iconst 0, 1) := by decide +kernel
theorem dX12_isLit_3 : decode cX12_isLit 3 = .ok (.istore 4, 2) := by decide +kernel
theorem dX12_isLit_5 : decode cX12_isLit 5 = .ok (.iload 4, 2) := by decide +kernel
theorem dX12_isLit_7 : decode cX12_isLit 7 = .ok (.aload_n 0, 1) := by decide +kernel
theorem dX12_isLit_8 : decode cX12_isLit 8 = .ok (.invokevirtual 80, 3) := by decide +kernel
theorem dX12_isLit_11 : decode cX12_isLit 11 = .ok (.if_icmp .ge 128, 3) := by decide +kernel
theorem dX12_isLit_14 : decode cX12_isLit 14 = .ok (.iload_n 3, 1) := by decide +kernel
theorem dX12_isLit_15 : decode cX12_isLit 15 = .ok (.ifCond .eq 124, 3) := by decide +kernel
theorem dX12_isLit_18 : decode cX12_isLit 18 = .ok (.iload_n 1, 1) := by decide +kernel
theorem dX12_isLit_19 : decode cX12_isLit 19 = .ok (.iload 4, 2) := by decide +kernel
theorem dX12_isLit_21 : decode cX12_isLit 21 = .ok (.invokestatic 304, 3) := by decide +kernel
theorem dX12_isLit_24 : decode cX12_isLit 24 = .ok (.ifCond .eq 13, 3) := by decide +kernel
theorem dX12_isLit_27 : decode cX12_isLit 27 = .ok (.aload_n 0, 1) := by decide +kernel
theorem dX12_isLit_28 : decode cX12_isLit 28 = .ok (.getfield 60, 3) := by decide +kernel
theorem dX12_isLit_31 : decode cX12_isLit 31 = .ok (.iload 4, 2) := by decide +kernel
theorem dX12_isLit_33 : decode cX12_isLit 33 = .ok (.iaload, 1) := by decide +kernel
theorem dX12_isLit_34 : decode cX12_isLit 34 = .ok (.goto 4, 3) := by decide +kernel
theorem dX12_isLit_37 : decode cX12_isLit 37 = .ok (.iconst 0, 1) := by decide +kernel
theorem dX12_isLit_38 : decode cX12_isLit 38 = .ok (.istore 5, 2) := by decide +kernel
theorem dX12_isLit_40 : decode cX12_isLit 40 = .ok (.iconst 0, 1) := by decide +kernel
theorem dX12_isLit_41 : decode cX12_isLit 41 = .ok (.istore 6, 2) := by decide +kernel
theorem dX12_isLit_43 : decode cX12_isLit 43 = .ok (.iload 6, 2) := by decide +kernel
theorem dX12_isLit_45 : decode cX12_isLit 45 = .ok (.iload_n 2, 1) := by decide +kernel
theorem dX12_isLit_46 : decode cX12_isLit 46 = .ok (.if_icmp .ge 76, 3) := by decide +kernel
theorem dX12_isLit_49 : decode cX12_isLit 49 = .ok (.iload 5, 2) := by decide +kernel
theorem dX12_isLit_51 : decode cX12_isLit 51 = .ok (.aload_n 0, 1) := by decide +kernel
theorem dX12_isLit_52 : decode cX12_isLit 52 = .ok (.getfield 63, 3) := by decide +kernel
theorem dX12_isLit_55 : decode cX12_isLit 55 = .ok (.iload 6, 2) := by decide +kernel
theorem dX12_isLit_57 : decode cX12_isLit 57 = .ok (.iaload, 1) := by decide +kernel
theorem dX12_isLit_58 : decode cX12_isLit 58 = .ok (.iload 4, 2) := by decide +kernel
theorem dX12_isLit_60 : decode cX12_isLit 60 = .ok (.if_icmp .ne 8, 3) := by decide +kernel
theorem dX12_isLit_63 : decode cX12_isLit 63 = .ok (.bipush 50, 2) := by decide +kernel
theorem dX12_isLit_65 : decode cX12_isLit 65 = .ok (.goto 4, 3) := by decide +kernel
theorem dX12_isLit_68 : decode cX12_isLit 68 = .ok (.iconst 0, 1) := by decide +kernel
theorem dX12_isLit_69 : decode cX12_isLit 69 = .ok (.isub, 1) := by decide +kernel
theorem dX12_isLit_70 : decode cX12_isLit 70 = .ok (.istore 5, 2) := by decide +kernel
theorem dX12_isLit_72 : decode cX12_isLit 72 = .ok (.iconst 0, 1) := by decide +kernel
theorem dX12_isLit_73 : decode cX12_isLit 73 = .ok (.istore 7, 2) := by decide +kernel
theorem dX12_isLit_75 : decode cX12_isLit 75 = .ok (.iload 7, 2) := by decide +kernel
theorem dX12_isLit_77 : decode cX12_isLit 77 = .ok (.iconst 4, 1) := by decide +kernel
theorem dX12_isLit_78 : decode cX12_isLit 78 = .ok (.if_icmp .ge 38, 3) := by decide +kernel
theorem dX12_isLit_81 : decode cX12_isLit 81 = .ok (.iload 5, 2) := by decide +kernel
theorem dX12_isLit_83 : decode cX12_isLit 83 = .ok (.aload_n 0, 1) := by decide +kernel
theorem dX12_isLit_84 : decode cX12_isLit 84 = .ok (.aload_n 0, 1) := by decide +kernel
theorem dX12_isLit_85 : decode cX12_isLit 85 = .ok (.getfield 63, 3) := by decide +kernel
theorem dX12_isLit_88 : decode cX12_isLit 88 = .ok (.iload 6, 2) := by decide +kernel
theorem dX12_isLit_90 : decode cX12_isLit 90 = .ok (.iaload, 1) := by decide +kernel
theorem dX12_isLit_91 : decode cX12_isLit 91 = .ok (.iload 7, 2) := by decide +kernel
theorem dX12_isLit_93 : decode cX12_isLit 93 = .ok (.invokevirtual 313, 3) := by decide +kernel
theorem dX12_isLit_96 : decode cX12_isLit 96 = .ok (.iload 4, 2) := by decide +kernel
theorem dX12_isLit_98 : decode cX12_isLit 98 = .ok (.if_icmp .ne 8, 3) := by decide +kernel
theorem dX12_isLit_101 : decode cX12_isLit 101 = .ok (.bipush 25, 2) := by decide +kernel
theorem dX12_isLit_103 : decode cX12_isLit 103 = .ok (.goto 4, 3) := by decide +kernel
theorem dX12_isLit_106 : decode cX12_isLit 106 = .ok (.iconst 0, 1) := by decide +kernel
theorem dX12_isLit_107 : decode cX12_isLit 107 = .ok (.isub, 1) := by decide +kernel
theorem dX12_isLit_108 : decode cX12_isLit 108 = .ok (.istore 5, 2) := by decide +kernel
theorem dX12_isLit_110 : decode cX12_isLit 110 = .ok (.iinc 7 1, 3) := by decide +kernel
theorem dX12_isLit_113 : decode cX12_isLit 113 = .ok (.goto (-38), 3) := by decide +kernel
theorem dX12_isLit_116 : decode cX12_isLit 116 = .ok (.iinc 6 1, 3) := by decide +kernel
theorem dX12_isLit_119 : decode cX12_isLit 119 = .ok (.goto (-76), 3) := by decide +kernel
theorem dX12_isLit_122 : decode cX12_isLit 122 = .ok (.iload 5, 2) := by decide +kernel
theorem dX12_isLit_124 : decode cX12_isLit 124 = .ok (.ifCond .gt 7, 3) := by decide +kernel
theorem dX12_isLit_127 : decode cX12_isLit 127 = .ok (.iconst 1, 1) := by decide +kernel
theorem dX12_isLit_128 : decode cX12_isLit 128 = .ok (.goto 4, 3) := by decide +kernel
theorem dX12_isLit_131 : decode cX12_isLit 131 = .ok (.iconst 0, 1) := by decide +kernel
theorem dX12_isLit_132 : decode cX12_isLit 132 = .ok (.istore_n 3, 1) := by decide +kernel
theorem dX12_isLit_133 : decode cX12_isLit 133 = .ok (.iinc 4 1, 3) := by decide +kernel
theorem dX12_isLit_136 : decode cX12_isLit 136 = .ok (.goto (-131), 3) := by decide +kernel
theorem dX12_isLit_139 : decode cX12_isLit 139 = .ok (.iload_n 3, 1) := by decide +kernel
theorem dX12_isLit_140 : decode cX12_isLit 140 = .ok (.ireturn, 1) := by decide +kernel
set_option maxRecDepth 20000 in
theorem kb_251_0 : ∀ q ∈ tb_251_0, s_atx 251 yX12_isLit cX12_isLit q.1 q.2 := (List.forall_mem_cons.mpr ⟨⟨s_iconst dX12_isLit_0 (by decide +kernel), s_mo_push _ _⟩, (List.forall_mem_cons.mpr ⟨⟨s_stIn dX12_isLit_1 rfl, s_mo_stI _ _⟩, (List.forall_mem_cons.mpr ⟨⟨s_iconst dX12_isLit_2 (by decide +kernel), s_mo_push _ _⟩, (List.forall_mem_cons.mpr ⟨⟨s_stI dX12_isLit_3, s_mo_stI _ _⟩, (List.forall_mem_cons.mpr ⟨⟨s_ldI dX12_isLit_5, s_mo_ldI _ _⟩, (List.forall_mem_cons.mpr ⟨⟨s_ldAn dX12_isLit_7 rfl, s_mo_ldA _ _⟩, (List.forall_mem_cons.mpr ⟨⟨s_sV mk_251 mk_156 ok_156 (by decide +kernel) dX12_isLit_8 w_1454 w_1456 wp_49 (Or.inr ⟨8, _, _, rfl, rfl⟩), s_h0 mk_251⟩, (List.forall_mem_cons.mpr ⟨⟨s_icge dX12_isLit_11 (by decide), s_mo_icge _ _⟩, (List.forall_mem_cons.mpr ⟨⟨s_ldIn dX12_isLit_14 rfl, s_mo_ldI _ _⟩, (List.forall_mem_cons.mpr ⟨⟨s_ifeq dX12_isLit_15 (by decide), s_mo_ifeq _ _⟩, (List.forall_mem_cons.mpr ⟨⟨s_ldIn dX12_isLit_18 rfl, s_mo_ldI _ _⟩, (List.forall_mem_cons.mpr ⟨⟨s_ldI dX12_isLit_19, s_mo_ldI _ _⟩, (List.forall_mem_cons.mpr ⟨⟨s_sS mk_251 mk_164 ok_164 (by decide +kernel) dX12_isLit_21 w_1593 w_1594, s_h0 mk_251⟩, (List.forall_mem_cons.mpr ⟨⟨s_ifeq dX12_isLit_24 (by decide), s_mo_ifeq _ _⟩, (List.forall_mem_cons.mpr ⟨⟨s_ldAn dX12_isLit_27 rfl, s_mo_ldA _ _⟩, (List.forall_mem_cons.mpr ⟨⟨s_getf (ci := 8) (k := 25) rfl (by decide) inX12 w_1246 dX12_isLit_28, s_mo_getf _ _ _⟩, (List.forall_mem_cons.mpr ⟨⟨s_ldI dX12_isLit_31, s_mo_ldI _ _⟩, (List.forall_mem_cons.mpr ⟨⟨s_iald dX12_isLit_33, s_mo_iald _⟩, (List.forall_mem_cons.mpr ⟨⟨s_goto dX12_isLit_34 (by decide), s_mo_goto _⟩, (List.forall_mem_cons.mpr ⟨⟨s_iconst dX12_isLit_37 (by decide +kernel), s_mo_push _ _⟩, (List.forall_mem_cons.mpr ⟨⟨s_stI dX12_isLit_38, s_mo_stI _ _⟩, (List.forall_mem_cons.mpr ⟨⟨s_iconst dX12_isLit_40 (by decide +kernel), s_mo_push _ _⟩, (List.forall_mem_cons.mpr ⟨⟨s_stI dX12_isLit_41, s_mo_stI _ _⟩, (List.forall_mem_cons.mpr ⟨⟨s_ldI dX12_isLit_43, s_mo_ldI _ _⟩, (List.forall_mem_cons.mpr ⟨⟨s_ldIn dX12_isLit_45 rfl, s_mo_ldI _ _⟩, (List.forall_mem_cons.mpr ⟨⟨s_icge dX12_isLit_46 (by decide), s_mo_icge _ _⟩, (List.forall_mem_cons.mpr ⟨⟨s_ldI dX12_isLit_49, s_mo_ldI _ _⟩, (List.forall_mem_cons.mpr ⟨⟨s_ldAn dX12_isLit_51 rfl, s_mo_ldA _ _⟩, (List.forall_mem_cons.mpr ⟨⟨s_getf (ci := 8) (k := 26) rfl (by decide) inX12 w_1247 dX12_isLit_52, s_mo_getf _ _ _⟩, (List.forall_mem_cons.mpr ⟨⟨s_ldI dX12_isLit_55, s_mo_ldI _ _⟩, (List.forall_mem_cons.mpr ⟨⟨s_iald dX12_isLit_57, s_mo_iald _⟩, (List.forall_mem_cons.mpr ⟨⟨s_ldI dX12_isLit_58, s_mo_ldI _ _⟩, (List.forall_mem_cons.mpr ⟨⟨s_icne dX12_isLit_60 (by decide), s_mo_icne _ _⟩, (List.forall_mem_cons.mpr ⟨⟨s_bipush dX12_isLit_63 (by decide +kernel), s_mo_push _ _⟩, (fun _ h => absurd h List.not_mem_nil)⟩)⟩)⟩)⟩)⟩)⟩)⟩)⟩)⟩)⟩)⟩)⟩)⟩)⟩)⟩)⟩)⟩)⟩)⟩)⟩)⟩)⟩)⟩)⟩)⟩)⟩)⟩)⟩)⟩)⟩)⟩)⟩)⟩)⟩)
set_option maxRecDepth 20000 in
theorem kb_251_1 : ∀ q ∈ tb_251_1, s_atx 251 yX12_isLit cX12_isLit q.1 q.2 := (List.forall_mem_cons.mpr ⟨⟨s_goto dX12_isLit_65 (by decide), s_mo_goto _⟩, (List.forall_mem_cons.mpr ⟨⟨s_iconst dX12_isLit_68 (by decide +kernel), s_mo_push _ _⟩, (List.forall_mem_cons.mpr ⟨⟨s_isub dX12_isLit_69, s_mo_bin _ _⟩, (List.forall_mem_cons.mpr ⟨⟨s_stI dX12_isLit_70, s_mo_stI _ _⟩, (List.forall_mem_cons.mpr ⟨⟨s_iconst dX12_isLit_72 (by decide +kernel), s_mo_push _ _⟩, (List.forall_mem_cons.mpr ⟨⟨s_stI dX12_isLit_73, s_mo_stI _ _⟩, (List.forall_mem_cons.mpr ⟨⟨s_ldI dX12_isLit_75, s_mo_ldI _ _⟩, (List.forall_mem_cons.mpr ⟨⟨s_iconst dX12_isLit_77 (by decide +kernel), s_mo_push _ _⟩, (List.forall_mem_cons.mpr ⟨⟨s_icge dX12_isLit_78 (by decide), s_mo_icge _ _⟩, (List.forall_mem_cons.mpr ⟨⟨s_ldI dX12_isLit_81, s_mo_ldI _ _⟩, (List.forall_mem_cons.mpr ⟨⟨s_ldAn dX12_isLit_83 rfl, s_mo_ldA _ _⟩, (List.forall_mem_cons.mpr ⟨⟨s_ldAn dX12_isLit_84 rfl, s_mo_ldA _ _⟩, (List.forall_mem_cons.mpr ⟨⟨s_getf (ci := 8) (k := 26) rfl (by decide) inX12 w_1247 dX12_isLit_85, s_mo_getf _ _ _⟩, (List.forall_mem_cons.mpr ⟨⟨s_ldI dX12_isLit_88, s_mo_ldI _ _⟩, (List.forall_mem_cons.mpr ⟨⟨s_iald dX12_isLit_90, s_mo_iald _⟩, (List.forall_mem_cons.mpr ⟨⟨s_ldI dX12_isLit_91, s_mo_ldI _ _⟩, (List.forall_mem_cons.mpr ⟨⟨s_sV mk_251 mk_163 ok_163 (by decide +kernel) dX12_isLit_93 w_1604 w_1606 wp_66 (Or.inr ⟨8, _, _, rfl, rfl⟩), s_h0 mk_251⟩, (List.forall_mem_cons.mpr ⟨⟨s_ldI dX12_isLit_96, s_mo_ldI _ _⟩, (List.forall_mem_cons.mpr ⟨⟨s_icne dX12_isLit_98 (by decide), s_mo_icne _ _⟩, (List.forall_mem_cons.mpr ⟨⟨s_bipush dX12_isLit_101 (by decide +kernel), s_mo_push _ _⟩, (List.forall_mem_cons.mpr ⟨⟨s_goto dX12_isLit_103 (by decide), s_mo_goto _⟩, (List.forall_mem_cons.mpr ⟨⟨s_iconst dX12_isLit_106 (by decide +kernel), s_mo_push _ _⟩, (List.forall_mem_cons.mpr ⟨⟨s_isub dX12_isLit_107, s_mo_bin _ _⟩, (List.forall_mem_cons.mpr ⟨⟨s_stI dX12_isLit_108, s_mo_stI _ _⟩, (List.forall_mem_cons.mpr ⟨⟨s_inc dX12_isLit_110 (by decide +kernel), s_mo_inc _ _ _⟩, (List.forall_mem_cons.mpr ⟨⟨s_goto dX12_isLit_113 (by decide), s_mo_goto _⟩, (List.forall_mem_cons.mpr ⟨⟨s_inc dX12_isLit_116 (by decide +kernel), s_mo_inc _ _ _⟩, (List.forall_mem_cons.mpr ⟨⟨s_goto dX12_isLit_119 (by decide), s_mo_goto _⟩, (List.forall_mem_cons.mpr ⟨⟨s_ldI dX12_isLit_122, s_mo_ldI _ _⟩, (List.forall_mem_cons.mpr ⟨⟨s_ifgt dX12_isLit_124 (by decide), s_mo_ifgt _ _⟩, (List.forall_mem_cons.mpr ⟨⟨s_iconst dX12_isLit_127 (by decide +kernel), s_mo_push _ _⟩, (fun _ h => absurd h List.not_mem_nil)⟩)⟩)⟩)⟩)⟩)⟩)⟩)⟩)⟩)⟩)⟩)⟩)⟩)⟩)⟩)⟩)⟩)⟩)⟩)⟩)⟩)⟩)⟩)⟩)⟩)⟩)⟩)⟩)⟩)⟩)⟩)
set_option maxRecDepth 20000 in
theorem kb_251_2 : ∀ q ∈ tb_251_2, s_atx 251 yX12_isLit cX12_isLit q.1 q.2 := (List.forall_mem_cons.mpr ⟨⟨s_goto dX12_isLit_128 (by decide), s_mo_goto _⟩, (List.forall_mem_cons.mpr ⟨⟨s_iconst dX12_isLit_131 (by decide +kernel), s_mo_push _ _⟩, (List.forall_mem_cons.mpr ⟨⟨s_stIn dX12_isLit_132 rfl, s_mo_stI _ _⟩, (List.forall_mem_cons.mpr ⟨⟨s_inc dX12_isLit_133 (by decide +kernel), s_mo_inc _ _ _⟩, (List.forall_mem_cons.mpr ⟨⟨s_goto dX12_isLit_136 (by decide), s_mo_goto _⟩, (List.forall_mem_cons.mpr ⟨⟨s_ldIn dX12_isLit_139 rfl, s_mo_ldI _ _⟩, (List.forall_mem_cons.mpr ⟨s_r2 mk_251 dX12_isLit_140, (fun _ h => absurd h List.not_mem_nil)⟩)⟩)⟩)⟩)⟩)⟩)⟩)
theorem km_251 : ∀ t ∈ tm_251, s_tok 251 t := (List.forall_mem_cons.mpr ⟨s_lift mk_251 kb_251_0, (List.forall_mem_cons.mpr ⟨s_lift mk_251 kb_251_1, (List.forall_mem_cons.mpr ⟨s_lift mk_251 kb_251_2, (fun _ h => absurd h List.not_mem_nil)⟩)⟩)⟩)
