/-! The tables are backed, piece by piece: written by wip/whole/gen_prog.py -/
theorem dX12_lamps_0 : decode cX12_lamps 0 = .ok (.aload_n 0, 1) := by decide +kernel
theorem dX12_lamps_1 : decode cX12_lamps 1 = .ok (.iconst 0, 1) := by decide +kernel
theorem dX12_lamps_2 : decode cX12_lamps 2 = .ok (.putfield 3, 3) := by decide +kernel
theorem dX12_lamps_5 : decode cX12_lamps 5 = .ok (.aload_n 0, 1) := by decide +kernel
theorem dX12_lamps_6 : decode cX12_lamps 6 = .ok (.iload_n 2, 1) := by decide +kernel
theorem dX12_lamps_7 : decode cX12_lamps 7 = .ok (.invokestatic 270, 3) := by decide +kernel
theorem dX12_lamps_10 : decode cX12_lamps 10 = .ok (.iconst 1, 1) := by decide +kernel
theorem dX12_lamps_11 : decode cX12_lamps 11 = .ok (.invokevirtual 234, 3) := by decide +kernel
theorem dX12_lamps_14 : decode cX12_lamps 14 = .ok (.ifCond .eq 5, 3) := by decide +kernel
theorem dX12_lamps_17 : decode cX12_lamps 17 = .ok (.iconst 0, 1) := by decide +kernel
theorem dX12_lamps_18 : decode cX12_lamps 18 = .ok (.ireturn, 1) := by decide +kernel
theorem dX12_lamps_19 : decode cX12_lamps 19 = .ok (.iconst 0, 1) := by decide +kernel
theorem dX12_lamps_20 : decode cX12_lamps 20 = .ok (.istore_n 3, 1) := by decide +kernel
theorem dX12_lamps_21 : decode cX12_lamps 21 = .ok (.iload_n 3, 1) := by decide +kernel
theorem dX12_lamps_22 : decode cX12_lamps 22 = .ok (.aload_n 0, 1) := by decide +kernel
theorem dX12_lamps_23 : decode cX12_lamps 23 = .ok (.invokevirtual 80, 3) := by decide +kernel
theorem dX12_lamps_26 : decode cX12_lamps 26 = .ok (.if_icmp .ge 24, 3) := by decide +kernel
theorem dX12_lamps_29 : decode cX12_lamps 29 = .ok (.aload_n 0, 1) := by decide +kernel
theorem dX12_lamps_30 : decode cX12_lamps 30 = .ok (.getfield 60, 3) := by decide +kernel
theorem dX12_lamps_33 : decode cX12_lamps 33 = .ok (.iload_n 3, 1) := by decide +kernel
theorem dX12_lamps_34 : decode cX12_lamps 34 = .ok (.bipush 50, 2) := by decide +kernel
theorem dX12_lamps_36 : decode cX12_lamps 36 = .ok (.aload_n 0, 1) := by decide +kernel
theorem dX12_lamps_37 : decode cX12_lamps 37 = .ok (.iload_n 3, 1) := by decide +kernel
theorem dX12_lamps_38 : decode cX12_lamps 38 = .ok (.iload_n 2, 1) := by decide +kernel
theorem dX12_lamps_39 : decode cX12_lamps 39 = .ok (.invokevirtual 282, 3) := by decide +kernel
theorem dX12_lamps_42 : decode cX12_lamps 42 = .ok (.isub, 1) := by decide +kernel
theorem dX12_lamps_43 : decode cX12_lamps 43 = .ok (.iastore, 1) := by decide +kernel
theorem dX12_lamps_44 : decode cX12_lamps 44 = .ok (.iinc 3 1, 3) := by decide +kernel
theorem dX12_lamps_47 : decode cX12_lamps 47 = .ok (.goto (-26), 3) := by decide +kernel
theorem dX12_lamps_50 : decode cX12_lamps 50 = .ok (.aload_n 0, 1) := by decide +kernel
theorem dX12_lamps_51 : decode cX12_lamps 51 = .ok (.iload_n 1, 1) := by decide +kernel
theorem dX12_lamps_52 : decode cX12_lamps 52 = .ok (.iconst 0, 1) := by decide +kernel
theorem dX12_lamps_53 : decode cX12_lamps 53 = .ok (.invokevirtual 371, 3) := by decide +kernel
theorem dX12_lamps_56 : decode cX12_lamps 56 = .ok (.ifCond .eq 5, 3) := by decide +kernel
theorem dX12_lamps_59 : decode cX12_lamps 59 = .ok (.iconst 0, 1) := by decide +kernel
theorem dX12_lamps_60 : decode cX12_lamps 60 = .ok (.ireturn, 1) := by decide +kernel
theorem dX12_lamps_61 : decode cX12_lamps 61 = .ok (.iconst 0, 1) := by decide +kernel
theorem dX12_lamps_62 : decode cX12_lamps 62 = .ok (.istore_n 3, 1) := by decide +kernel
theorem dX12_lamps_63 : decode cX12_lamps 63 = .ok (.iload_n 3, 1) := by decide +kernel
theorem dX12_lamps_64 : decode cX12_lamps 64 = .ok (.aload_n 0, 1) := by decide +kernel
theorem dX12_lamps_65 : decode cX12_lamps 65 = .ok (.invokevirtual 80, 3) := by decide +kernel
theorem dX12_lamps_68 : decode cX12_lamps 68 = .ok (.if_icmp .ge 29, 3) := by decide +kernel
theorem dX12_lamps_71 : decode cX12_lamps 71 = .ok (.aload_n 0, 1) := by decide +kernel
theorem dX12_lamps_72 : decode cX12_lamps 72 = .ok (.getfield 63, 3) := by decide +kernel
theorem dX12_lamps_75 : decode cX12_lamps 75 = .ok (.iconst 0, 1) := by decide +kernel
theorem dX12_lamps_76 : decode cX12_lamps 76 = .ok (.iload_n 3, 1) := by decide +kernel
theorem dX12_lamps_77 : decode cX12_lamps 77 = .ok (.iastore, 1) := by decide +kernel
theorem dX12_lamps_78 : decode cX12_lamps 78 = .ok (.aload_n 0, 1) := by decide +kernel
theorem dX12_lamps_79 : decode cX12_lamps 79 = .ok (.iload_n 1, 1) := by decide +kernel
theorem dX12_lamps_80 : decode cX12_lamps 80 = .ok (.iconst 1, 1) := by decide +kernel
theorem dX12_lamps_81 : decode cX12_lamps 81 = .ok (.invokevirtual 371, 3) := by decide +kernel
theorem dX12_lamps_84 : decode cX12_lamps 84 = .ok (.ifCond .eq 7, 3) := by decide +kernel
theorem dX12_lamps_87 : decode cX12_lamps 87 = .ok (.iconst 1, 1) := by decide +kernel
theorem dX12_lamps_88 : decode cX12_lamps 88 = .ok (.iload_n 3, 1) := by decide +kernel
theorem dX12_lamps_89 : decode cX12_lamps 89 = .ok (.ishl, 1) := by decide +kernel
theorem dX12_lamps_90 : decode cX12_lamps 90 = .ok (.ireturn, 1) := by decide +kernel
theorem dX12_lamps_91 : decode cX12_lamps 91 = .ok (.iinc 3 1, 3) := by decide +kernel
theorem dX12_lamps_94 : decode cX12_lamps 94 = .ok (.goto (-31), 3) := by decide +kernel
theorem dX12_lamps_97 : decode cX12_lamps 97 = .ok (.iconst 1, 1) := by decide +kernel
theorem dX12_lamps_98 : decode cX12_lamps 98 = .ok (.istore_n 3, 1) := by decide +kernel
theorem dX12_lamps_99 : decode cX12_lamps 99 = .ok (.iload_n 3, 1) := by decide +kernel
theorem dX12_lamps_100 : decode cX12_lamps 100 = .ok (.aload_n 0, 1) := by decide +kernel
theorem dX12_lamps_101 : decode cX12_lamps 101 = .ok (.invokevirtual 80, 3) := by decide +kernel
theorem dX12_lamps_104 : decode cX12_lamps 104 = .ok (.if_icmp .ge 57, 3) := by decide +kernel
theorem dX12_lamps_107 : decode cX12_lamps 107 = .ok (.iconst 0, 1) := by decide +kernel
theorem dX12_lamps_108 : decode cX12_lamps 108 = .ok (.istore 4, 2) := by decide +kernel
theorem dX12_lamps_110 : decode cX12_lamps 110 = .ok (.iload 4, 2) := by decide +kernel
theorem dX12_lamps_112 : decode cX12_lamps 112 = .ok (.iload_n 3, 1) := by decide +kernel
theorem dX12_lamps_113 : decode cX12_lamps 113 = .ok (.if_icmp .ge 42, 3) := by decide +kernel
theorem dX12_lamps_116 : decode cX12_lamps 116 = .ok (.aload_n 0, 1) := by decide +kernel
theorem dX12_lamps_117 : decode cX12_lamps 117 = .ok (.getfield 63, 3) := by decide +kernel
theorem dX12_lamps_120 : decode cX12_lamps 120 = .ok (.iconst 0, 1) := by decide +kernel
theorem dX12_lamps_121 : decode cX12_lamps 121 = .ok (.iload_n 3, 1) := by decide +kernel
theorem dX12_lamps_122 : decode cX12_lamps 122 = .ok (.iastore, 1) := by decide +kernel
theorem dX12_lamps_123 : decode cX12_lamps 123 = .ok (.aload_n 0, 1) := by decide +kernel
theorem dX12_lamps_124 : decode cX12_lamps 124 = .ok (.getfield 63, 3) := by decide +kernel
theorem dX12_lamps_127 : decode cX12_lamps 127 = .ok (.iconst 1, 1) := by decide +kernel
theorem dX12_lamps_128 : decode cX12_lamps 128 = .ok (.iload 4, 2) := by decide +kernel
theorem dX12_lamps_130 : decode cX12_lamps 130 = .ok (.iastore, 1) := by decide +kernel
theorem dX12_lamps_131 : decode cX12_lamps 131 = .ok (.aload_n 0, 1) := by decide +kernel
theorem dX12_lamps_132 : decode cX12_lamps 132 = .ok (.iload_n 1, 1) := by decide +kernel
theorem dX12_lamps_133 : decode cX12_lamps 133 = .ok (.iconst 2, 1) := by decide +kernel
theorem dX12_lamps_134 : decode cX12_lamps 134 = .ok (.invokevirtual 371, 3) := by decide +kernel
theorem dX12_lamps_137 : decode cX12_lamps 137 = .ok (.ifCond .eq 12, 3) := by decide +kernel
theorem dX12_lamps_140 : decode cX12_lamps 140 = .ok (.iconst 1, 1) := by decide +kernel
theorem dX12_lamps_141 : decode cX12_lamps 141 = .ok (.iload_n 3, 1) := by decide +kernel
theorem dX12_lamps_142 : decode cX12_lamps 142 = .ok (.ishl, 1) := by decide +kernel
theorem dX12_lamps_143 : decode cX12_lamps 143 = .ok (.iconst 1, 1) := by decide +kernel
theorem dX12_lamps_144 : decode cX12_lamps 144 = .ok (.iload 4, 2) := by decide +kernel
theorem dX12_lamps_146 : decode cX12_lamps 146 = .ok (.ishl, 1) := by decide +kernel
theorem dX12_lamps_147 : decode cX12_lamps 147 = .ok (.ior, 1) := by decide +kernel
theorem dX12_lamps_148 : decode cX12_lamps 148 = .ok (.ireturn, 1) := by decide +kernel
theorem dX12_lamps_149 : decode cX12_lamps 149 = .ok (.iinc 4 1, 3) := by decide +kernel
theorem dX12_lamps_152 : decode cX12_lamps 152 = .ok (.goto (-42), 3) := by decide +kernel
theorem dX12_lamps_155 : decode cX12_lamps 155 = .ok (.iinc 3 1, 3) := by decide +kernel
theorem dX12_lamps_158 : decode cX12_lamps 158 = .ok (.goto (-59), 3) := by decide +kernel
theorem dX12_lamps_161 : decode cX12_lamps 161 = .ok (.iconst 2, 1) := by decide +kernel
theorem dX12_lamps_162 : decode cX12_lamps 162 = .ok (.istore_n 3, 1) := by decide +kernel
theorem dX12_lamps_163 : decode cX12_lamps 163 = .ok (.iload_n 3, 1) := by decide +kernel
theorem dX12_lamps_164 : decode cX12_lamps 164 = .ok (.aload_n 0, 1) := by decide +kernel
theorem dX12_lamps_165 : decode cX12_lamps 165 = .ok (.invokevirtual 80, 3) := by decide +kernel
theorem dX12_lamps_168 : decode cX12_lamps 168 = .ok (.if_icmp .ge 86, 3) := by decide +kernel
theorem dX12_lamps_171 : decode cX12_lamps 171 = .ok (.iconst 1, 1) := by decide +kernel
theorem dX12_lamps_172 : decode cX12_lamps 172 = .ok (.istore 4, 2) := by decide +kernel
theorem dX12_lamps_174 : decode cX12_lamps 174 = .ok (.iload 4, 2) := by decide +kernel
theorem dX12_lamps_176 : decode cX12_lamps 176 = .ok (.iload_n 3, 1) := by decide +kernel
theorem dX12_lamps_177 : decode cX12_lamps 177 = .ok (.if_icmp .ge 71, 3) := by decide +kernel
theorem dX12_lamps_180 : decode cX12_lamps 180 = .ok (.iconst 0, 1) := by decide +kernel
theorem dX12_lamps_181 : decode cX12_lamps 181 = .ok (.istore 5, 2) := by decide +kernel
theorem dX12_lamps_183 : decode cX12_lamps 183 = .ok (.iload 5, 2) := by decide +kernel
theorem dX12_lamps_185 : decode cX12_lamps 185 = .ok (.iload 4, 2) := by decide +kernel
theorem dX12_lamps_187 : decode cX12_lamps 187 = .ok (.if_icmp .ge 55, 3) := by decide +kernel
theorem dX12_lamps_190 : decode cX12_lamps 190 = .ok (.aload_n 0, 1) := by decide +kernel
theorem dX12_lamps_191 : decode cX12_lamps 191 = .ok (.getfield 63, 3) := by decide +kernel
theorem dX12_lamps_194 : decode cX12_lamps 194 = .ok (.iconst 0, 1) := by decide +kernel
theorem dX12_lamps_195 : decode cX12_lamps 195 = .ok (.iload_n 3, 1) := by decide +kernel
theorem dX12_lamps_196 : decode cX12_lamps 196 = .ok (.iastore, 1) := by decide +kernel
theorem dX12_lamps_197 : decode cX12_lamps 197 = .ok (.aload_n 0, 1) := by decide +kernel
theorem dX12_lamps_198 : decode cX12_lamps 198 = .ok (.getfield 63, 3) := by decide +kernel
theorem dX12_lamps_201 : decode cX12_lamps 201 = .ok (.iconst 1, 1) := by decide +kernel
theorem dX12_lamps_202 : decode cX12_lamps 202 = .ok (.iload 4, 2) := by decide +kernel
theorem dX12_lamps_204 : decode cX12_lamps 204 = .ok (.iastore, 1) := by decide +kernel
theorem dX12_lamps_205 : decode cX12_lamps 205 = .ok (.aload_n 0, 1) := by decide +kernel
theorem dX12_lamps_206 : decode cX12_lamps 206 = .ok (.getfield 63, 3) := by decide +kernel
theorem dX12_lamps_209 : decode cX12_lamps 209 = .ok (.iconst 2, 1) := by decide +kernel
theorem dX12_lamps_210 : decode cX12_lamps 210 = .ok (.iload 5, 2) := by decide +kernel
theorem dX12_lamps_212 : decode cX12_lamps 212 = .ok (.iastore, 1) := by decide +kernel
theorem dX12_lamps_213 : decode cX12_lamps 213 = .ok (.aload_n 0, 1) := by decide +kernel
theorem dX12_lamps_214 : decode cX12_lamps 214 = .ok (.iload_n 1, 1) := by decide +kernel
theorem dX12_lamps_215 : decode cX12_lamps 215 = .ok (.iconst 3, 1) := by decide +kernel
theorem dX12_lamps_216 : decode cX12_lamps 216 = .ok (.invokevirtual 371, 3) := by decide +kernel
theorem dX12_lamps_219 : decode cX12_lamps 219 = .ok (.ifCond .eq 17, 3) := by decide +kernel
theorem dX12_lamps_222 : decode cX12_lamps 222 = .ok (.iconst 1, 1) := by decide +kernel
theorem dX12_lamps_223 : decode cX12_lamps 223 = .ok (.iload_n 3, 1) := by decide +kernel
theorem dX12_lamps_224 : decode cX12_lamps 224 = .ok (.ishl, 1) := by decide +kernel
theorem dX12_lamps_225 : decode cX12_lamps 225 = .ok (.iconst 1, 1) := by decide +kernel
theorem dX12_lamps_226 : decode cX12_lamps 226 = .ok (.iload 4, 2) := by decide +kernel
theorem dX12_lamps_228 : decode cX12_lamps 228 = .ok (.ishl, 1) := by decide +kernel
theorem dX12_lamps_229 : decode cX12_lamps 229 = .ok (.ior, 1) := by decide +kernel
theorem dX12_lamps_230 : decode cX12_lamps 230 = .ok (.iconst 1, 1) := by decide +kernel
theorem dX12_lamps_231 : decode cX12_lamps 231 = .ok (.iload 5, 2) := by decide +kernel
theorem dX12_lamps_233 : decode cX12_lamps 233 = .ok (.ishl, 1) := by decide +kernel
theorem dX12_lamps_234 : decode cX12_lamps 234 = .ok (.ior, 1) := by decide +kernel
theorem dX12_lamps_235 : decode cX12_lamps 235 = .ok (.ireturn, 1) := by decide +kernel
theorem dX12_lamps_236 : decode cX12_lamps 236 = .ok (.iinc 5 1, 3) := by decide +kernel
theorem dX12_lamps_239 : decode cX12_lamps 239 = .ok (.goto (-56), 3) := by decide +kernel
theorem dX12_lamps_242 : decode cX12_lamps 242 = .ok (.iinc 4 1, 3) := by decide +kernel
theorem dX12_lamps_245 : decode cX12_lamps 245 = .ok (.goto (-71), 3) := by decide +kernel
theorem dX12_lamps_248 : decode cX12_lamps 248 = .ok (.iinc 3 1, 3) := by decide +kernel
theorem dX12_lamps_251 : decode cX12_lamps 251 = .ok (.goto (-88), 3) := by decide +kernel
theorem dX12_lamps_254 : decode cX12_lamps 254 = .ok (.iconst (-1), 1) := by decide +kernel
theorem dX12_lamps_255 : decode cX12_lamps 255 = .ok (.ireturn, 1) := by decide +kernel
set_option maxRecDepth 20000 in
theorem kb_252_0 : ∀ q ∈ tb_252_0, s_atx 252 yX12_lamps cX12_lamps q.1 q.2 := (List.forall_mem_cons.mpr ⟨⟨s_ldAn dX12_lamps_0 rfl, s_mo_ldA _ _⟩, (List.forall_mem_cons.mpr ⟨⟨s_iconst dX12_lamps_1 (by decide +kernel), s_mo_push _ _⟩, (List.forall_mem_cons.mpr ⟨⟨s_putI (ci := 8) (k := 0) rfl (by decide) inX12 tyX12_ok nmX12 rfl rfl w_1221 dX12_lamps_2, s_mo_putI _ _ _⟩, (List.forall_mem_cons.mpr ⟨⟨s_ldAn dX12_lamps_5 rfl, s_mo_ldA _ _⟩, (List.forall_mem_cons.mpr ⟨⟨s_ldIn dX12_lamps_6 rfl, s_mo_ldI _ _⟩, (List.forall_mem_cons.mpr ⟨⟨s_sS mk_252 mk_161 ok_161 (by decide +kernel) dX12_lamps_7 w_1503 w_1504, s_h0 mk_252⟩, (List.forall_mem_cons.mpr ⟨⟨s_iconst dX12_lamps_10 (by decide +kernel), s_mo_push _ _⟩, (List.forall_mem_cons.mpr ⟨⟨s_sV mk_252 mk_149 ok_149 (by decide +kernel) dX12_lamps_11 w_1438 w_1440 wp_47 (Or.inr ⟨8, _, _, rfl, rfl⟩), s_h0 mk_252⟩, (List.forall_mem_cons.mpr ⟨⟨s_ifeq dX12_lamps_14 (by decide), s_mo_ifeq _ _⟩, (List.forall_mem_cons.mpr ⟨⟨s_iconst dX12_lamps_17 (by decide +kernel), s_mo_push _ _⟩, (List.forall_mem_cons.mpr ⟨s_r1 mk_252 dX12_lamps_18, (List.forall_mem_cons.mpr ⟨⟨s_iconst dX12_lamps_19 (by decide +kernel), s_mo_push _ _⟩, (List.forall_mem_cons.mpr ⟨⟨s_stIn dX12_lamps_20 rfl, s_mo_stI _ _⟩, (List.forall_mem_cons.mpr ⟨⟨s_ldIn dX12_lamps_21 rfl, s_mo_ldI _ _⟩, (List.forall_mem_cons.mpr ⟨⟨s_ldAn dX12_lamps_22 rfl, s_mo_ldA _ _⟩, (List.forall_mem_cons.mpr ⟨⟨s_sV mk_252 mk_156 ok_156 (by decide +kernel) dX12_lamps_23 w_1454 w_1456 wp_49 (Or.inr ⟨8, _, _, rfl, rfl⟩), s_h0 mk_252⟩, (List.forall_mem_cons.mpr ⟨⟨s_icge dX12_lamps_26 (by decide), s_mo_icge _ _⟩, (List.forall_mem_cons.mpr ⟨⟨s_ldAn dX12_lamps_29 rfl, s_mo_ldA _ _⟩, (List.forall_mem_cons.mpr ⟨⟨s_getf (ci := 8) (k := 25) rfl (by decide) inX12 w_1246 dX12_lamps_30, s_mo_getf _ _ _⟩, (List.forall_mem_cons.mpr ⟨⟨s_ldIn dX12_lamps_33 rfl, s_mo_ldI _ _⟩, (List.forall_mem_cons.mpr ⟨⟨s_bipush dX12_lamps_34 (by decide +kernel), s_mo_push _ _⟩, (List.forall_mem_cons.mpr ⟨⟨s_ldAn dX12_lamps_36 rfl, s_mo_ldA _ _⟩, (List.forall_mem_cons.mpr ⟨⟨s_ldIn dX12_lamps_37 rfl, s_mo_ldI _ _⟩, (List.forall_mem_cons.mpr ⟨⟨s_ldIn dX12_lamps_38 rfl, s_mo_ldI _ _⟩, (List.forall_mem_cons.mpr ⟨⟨s_sV mk_252 mk_207 ok_207 (by decide +kernel) dX12_lamps_39 w_1537 w_1539 wp_58 (Or.inr ⟨8, _, _, rfl, rfl⟩), s_h0 mk_252⟩, (List.forall_mem_cons.mpr ⟨⟨s_isub dX12_lamps_42, s_mo_bin _ _⟩, (List.forall_mem_cons.mpr ⟨⟨s_iast dX12_lamps_43, s_mo_iast _⟩, (List.forall_mem_cons.mpr ⟨⟨s_inc dX12_lamps_44 (by decide +kernel), s_mo_inc _ _ _⟩, (List.forall_mem_cons.mpr ⟨⟨s_goto dX12_lamps_47 (by decide), s_mo_goto _⟩, (List.forall_mem_cons.mpr ⟨⟨s_ldAn dX12_lamps_50 rfl, s_mo_ldA _ _⟩, (List.forall_mem_cons.mpr ⟨⟨s_ldIn dX12_lamps_51 rfl, s_mo_ldI _ _⟩, (List.forall_mem_cons.mpr ⟨⟨s_iconst dX12_lamps_52 (by decide +kernel), s_mo_push _ _⟩, (List.forall_mem_cons.mpr ⟨⟨s_sV mk_252 mk_251 ok_251 (by decide +kernel) dX12_lamps_53 w_1729 w_1731 wp_81 (Or.inr ⟨8, _, _, rfl, rfl⟩), s_h0 mk_252⟩, (List.forall_mem_cons.mpr ⟨⟨s_ifeq dX12_lamps_56 (by decide), s_mo_ifeq _ _⟩, (List.forall_mem_cons.mpr ⟨⟨s_iconst dX12_lamps_59 (by decide +kernel), s_mo_push _ _⟩, (List.forall_mem_cons.mpr ⟨s_r1 mk_252 dX12_lamps_60, (List.forall_mem_cons.mpr ⟨⟨s_iconst dX12_lamps_61 (by decide +kernel), s_mo_push _ _⟩, (List.forall_mem_cons.mpr ⟨⟨s_stIn dX12_lamps_62 rfl, s_mo_stI _ _⟩, (List.forall_mem_cons.mpr ⟨⟨s_ldIn dX12_lamps_63 rfl, s_mo_ldI _ _⟩, (fun _ h => absurd h List.not_mem_nil)⟩)⟩)⟩)⟩)⟩)⟩)⟩)⟩)⟩)⟩)⟩)⟩)⟩)⟩)⟩)⟩)⟩)⟩)⟩)⟩)⟩)⟩)⟩)⟩)⟩)⟩)⟩)⟩)⟩)⟩)⟩)⟩)⟩)⟩)⟩)⟩)⟩)⟩)⟩)
set_option maxRecDepth 20000 in
theorem kb_252_1 : ∀ q ∈ tb_252_1, s_atx 252 yX12_lamps cX12_lamps q.1 q.2 := (List.forall_mem_cons.mpr ⟨⟨s_ldAn dX12_lamps_64 rfl, s_mo_ldA _ _⟩, (List.forall_mem_cons.mpr ⟨⟨s_sV mk_252 mk_156 ok_156 (by decide +kernel) dX12_lamps_65 w_1454 w_1456 wp_49 (Or.inr ⟨8, _, _, rfl, rfl⟩), s_h0 mk_252⟩, (List.forall_mem_cons.mpr ⟨⟨s_icge dX12_lamps_68 (by decide), s_mo_icge _ _⟩, (List.forall_mem_cons.mpr ⟨⟨s_ldAn dX12_lamps_71 rfl, s_mo_ldA _ _⟩, (List.forall_mem_cons.mpr ⟨⟨s_getf (ci := 8) (k := 26) rfl (by decide) inX12 w_1247 dX12_lamps_72, s_mo_getf _ _ _⟩, (List.forall_mem_cons.mpr ⟨⟨s_iconst dX12_lamps_75 (by decide +kernel), s_mo_push _ _⟩, (List.forall_mem_cons.mpr ⟨⟨s_ldIn dX12_lamps_76 rfl, s_mo_ldI _ _⟩, (List.forall_mem_cons.mpr ⟨⟨s_iast dX12_lamps_77, s_mo_iast _⟩, (List.forall_mem_cons.mpr ⟨⟨s_ldAn dX12_lamps_78 rfl, s_mo_ldA _ _⟩, (List.forall_mem_cons.mpr ⟨⟨s_ldIn dX12_lamps_79 rfl, s_mo_ldI _ _⟩, (List.forall_mem_cons.mpr ⟨⟨s_iconst dX12_lamps_80 (by decide +kernel), s_mo_push _ _⟩, (List.forall_mem_cons.mpr ⟨⟨s_sV mk_252 mk_251 ok_251 (by decide +kernel) dX12_lamps_81 w_1729 w_1731 wp_81 (Or.inr ⟨8, _, _, rfl, rfl⟩), s_h0 mk_252⟩, (List.forall_mem_cons.mpr ⟨⟨s_ifeq dX12_lamps_84 (by decide), s_mo_ifeq _ _⟩, (List.forall_mem_cons.mpr ⟨⟨s_iconst dX12_lamps_87 (by decide +kernel), s_mo_push _ _⟩, (List.forall_mem_cons.mpr ⟨⟨s_ldIn dX12_lamps_88 rfl, s_mo_ldI _ _⟩, (List.forall_mem_cons.mpr ⟨⟨s_ishl dX12_lamps_89, s_mo_bin _ _⟩, (List.forall_mem_cons.mpr ⟨s_r1 mk_252 dX12_lamps_90, (List.forall_mem_cons.mpr ⟨⟨s_inc dX12_lamps_91 (by decide +kernel), s_mo_inc _ _ _⟩, (List.forall_mem_cons.mpr ⟨⟨s_goto dX12_lamps_94 (by decide), s_mo_goto _⟩, (List.forall_mem_cons.mpr ⟨⟨s_iconst dX12_lamps_97 (by decide +kernel), s_mo_push _ _⟩, (List.forall_mem_cons.mpr ⟨⟨s_stIn dX12_lamps_98 rfl, s_mo_stI _ _⟩, (List.forall_mem_cons.mpr ⟨⟨s_ldIn dX12_lamps_99 rfl, s_mo_ldI _ _⟩, (List.forall_mem_cons.mpr ⟨⟨s_ldAn dX12_lamps_100 rfl, s_mo_ldA _ _⟩, (List.forall_mem_cons.mpr ⟨⟨s_sV mk_252 mk_156 ok_156 (by decide +kernel) dX12_lamps_101 w_1454 w_1456 wp_49 (Or.inr ⟨8, _, _, rfl, rfl⟩), s_h0 mk_252⟩, (List.forall_mem_cons.mpr ⟨⟨s_icge dX12_lamps_104 (by decide), s_mo_icge _ _⟩, (List.forall_mem_cons.mpr ⟨⟨s_iconst dX12_lamps_107 (by decide +kernel), s_mo_push _ _⟩, (List.forall_mem_cons.mpr ⟨⟨s_stI dX12_lamps_108, s_mo_stI _ _⟩, (List.forall_mem_cons.mpr ⟨⟨s_ldI dX12_lamps_110, s_mo_ldI _ _⟩, (List.forall_mem_cons.mpr ⟨⟨s_ldIn dX12_lamps_112 rfl, s_mo_ldI _ _⟩, (List.forall_mem_cons.mpr ⟨⟨s_icge dX12_lamps_113 (by decide), s_mo_icge _ _⟩, (List.forall_mem_cons.mpr ⟨⟨s_ldAn dX12_lamps_116 rfl, s_mo_ldA _ _⟩, (List.forall_mem_cons.mpr ⟨⟨s_getf (ci := 8) (k := 26) rfl (by decide) inX12 w_1247 dX12_lamps_117, s_mo_getf _ _ _⟩, (List.forall_mem_cons.mpr ⟨⟨s_iconst dX12_lamps_120 (by decide +kernel), s_mo_push _ _⟩, (List.forall_mem_cons.mpr ⟨⟨s_ldIn dX12_lamps_121 rfl, s_mo_ldI _ _⟩, (List.forall_mem_cons.mpr ⟨⟨s_iast dX12_lamps_122, s_mo_iast _⟩, (List.forall_mem_cons.mpr ⟨⟨s_ldAn dX12_lamps_123 rfl, s_mo_ldA _ _⟩, (List.forall_mem_cons.mpr ⟨⟨s_getf (ci := 8) (k := 26) rfl (by decide) inX12 w_1247 dX12_lamps_124, s_mo_getf _ _ _⟩, (List.forall_mem_cons.mpr ⟨⟨s_iconst dX12_lamps_127 (by decide +kernel), s_mo_push _ _⟩, (fun _ h => absurd h List.not_mem_nil)⟩)⟩)⟩)⟩)⟩)⟩)⟩)⟩)⟩)⟩)⟩)⟩)⟩)⟩)⟩)⟩)⟩)⟩)⟩)⟩)⟩)⟩)⟩)⟩)⟩)⟩)⟩)⟩)⟩)⟩)⟩)⟩)⟩)⟩)⟩)⟩)⟩)⟩)
set_option maxRecDepth 20000 in
theorem kb_252_2 : ∀ q ∈ tb_252_2, s_atx 252 yX12_lamps cX12_lamps q.1 q.2 := (List.forall_mem_cons.mpr ⟨⟨s_ldI dX12_lamps_128, s_mo_ldI _ _⟩, (List.forall_mem_cons.mpr ⟨⟨s_iast dX12_lamps_130, s_mo_iast _⟩, (List.forall_mem_cons.mpr ⟨⟨s_ldAn dX12_lamps_131 rfl, s_mo_ldA _ _⟩, (List.forall_mem_cons.mpr ⟨⟨s_ldIn dX12_lamps_132 rfl, s_mo_ldI _ _⟩, (List.forall_mem_cons.mpr ⟨⟨s_iconst dX12_lamps_133 (by decide +kernel), s_mo_push _ _⟩, (List.forall_mem_cons.mpr ⟨⟨s_sV mk_252 mk_251 ok_251 (by decide +kernel) dX12_lamps_134 w_1729 w_1731 wp_81 (Or.inr ⟨8, _, _, rfl, rfl⟩), s_h0 mk_252⟩, (List.forall_mem_cons.mpr ⟨⟨s_ifeq dX12_lamps_137 (by decide), s_mo_ifeq _ _⟩, (List.forall_mem_cons.mpr ⟨⟨s_iconst dX12_lamps_140 (by decide +kernel), s_mo_push _ _⟩, (List.forall_mem_cons.mpr ⟨⟨s_ldIn dX12_lamps_141 rfl, s_mo_ldI _ _⟩, (List.forall_mem_cons.mpr ⟨⟨s_ishl dX12_lamps_142, s_mo_bin _ _⟩, (List.forall_mem_cons.mpr ⟨⟨s_iconst dX12_lamps_143 (by decide +kernel), s_mo_push _ _⟩, (List.forall_mem_cons.mpr ⟨⟨s_ldI dX12_lamps_144, s_mo_ldI _ _⟩, (List.forall_mem_cons.mpr ⟨⟨s_ishl dX12_lamps_146, s_mo_bin _ _⟩, (List.forall_mem_cons.mpr ⟨⟨s_ior dX12_lamps_147, s_mo_bin _ _⟩, (List.forall_mem_cons.mpr ⟨s_r1 mk_252 dX12_lamps_148, (List.forall_mem_cons.mpr ⟨⟨s_inc dX12_lamps_149 (by decide +kernel), s_mo_inc _ _ _⟩, (List.forall_mem_cons.mpr ⟨⟨s_goto dX12_lamps_152 (by decide), s_mo_goto _⟩, (List.forall_mem_cons.mpr ⟨⟨s_inc dX12_lamps_155 (by decide +kernel), s_mo_inc _ _ _⟩, (List.forall_mem_cons.mpr ⟨⟨s_goto dX12_lamps_158 (by decide), s_mo_goto _⟩, (List.forall_mem_cons.mpr ⟨⟨s_iconst dX12_lamps_161 (by decide +kernel), s_mo_push _ _⟩, (List.forall_mem_cons.mpr ⟨⟨s_stIn dX12_lamps_162 rfl, s_mo_stI _ _⟩, (List.forall_mem_cons.mpr ⟨⟨s_ldIn dX12_lamps_163 rfl, s_mo_ldI _ _⟩, (List.forall_mem_cons.mpr ⟨⟨s_ldAn dX12_lamps_164 rfl, s_mo_ldA _ _⟩, (List.forall_mem_cons.mpr ⟨⟨s_sV mk_252 mk_156 ok_156 (by decide +kernel) dX12_lamps_165 w_1454 w_1456 wp_49 (Or.inr ⟨8, _, _, rfl, rfl⟩), s_h0 mk_252⟩, (List.forall_mem_cons.mpr ⟨⟨s_icge dX12_lamps_168 (by decide), s_mo_icge _ _⟩, (List.forall_mem_cons.mpr ⟨⟨s_iconst dX12_lamps_171 (by decide +kernel), s_mo_push _ _⟩, (List.forall_mem_cons.mpr ⟨⟨s_stI dX12_lamps_172, s_mo_stI _ _⟩, (List.forall_mem_cons.mpr ⟨⟨s_ldI dX12_lamps_174, s_mo_ldI _ _⟩, (List.forall_mem_cons.mpr ⟨⟨s_ldIn dX12_lamps_176 rfl, s_mo_ldI _ _⟩, (List.forall_mem_cons.mpr ⟨⟨s_icge dX12_lamps_177 (by decide), s_mo_icge _ _⟩, (List.forall_mem_cons.mpr ⟨⟨s_iconst dX12_lamps_180 (by decide +kernel), s_mo_push _ _⟩, (List.forall_mem_cons.mpr ⟨⟨s_stI dX12_lamps_181, s_mo_stI _ _⟩, (List.forall_mem_cons.mpr ⟨⟨s_ldI dX12_lamps_183, s_mo_ldI _ _⟩, (List.forall_mem_cons.mpr ⟨⟨s_ldI dX12_lamps_185, s_mo_ldI _ _⟩, (List.forall_mem_cons.mpr ⟨⟨s_icge dX12_lamps_187 (by decide), s_mo_icge _ _⟩, (List.forall_mem_cons.mpr ⟨⟨s_ldAn dX12_lamps_190 rfl, s_mo_ldA _ _⟩, (List.forall_mem_cons.mpr ⟨⟨s_getf (ci := 8) (k := 26) rfl (by decide) inX12 w_1247 dX12_lamps_191, s_mo_getf _ _ _⟩, (fun _ h => absurd h List.not_mem_nil)⟩)⟩)⟩)⟩)⟩)⟩)⟩)⟩)⟩)⟩)⟩)⟩)⟩)⟩)⟩)⟩)⟩)⟩)⟩)⟩)⟩)⟩)⟩)⟩)⟩)⟩)⟩)⟩)⟩)⟩)⟩)⟩)⟩)⟩)⟩)⟩)⟩)
set_option maxRecDepth 20000 in
theorem kb_252_3 : ∀ q ∈ tb_252_3, s_atx 252 yX12_lamps cX12_lamps q.1 q.2 := (List.forall_mem_cons.mpr ⟨⟨s_iconst dX12_lamps_194 (by decide +kernel), s_mo_push _ _⟩, (List.forall_mem_cons.mpr ⟨⟨s_ldIn dX12_lamps_195 rfl, s_mo_ldI _ _⟩, (List.forall_mem_cons.mpr ⟨⟨s_iast dX12_lamps_196, s_mo_iast _⟩, (List.forall_mem_cons.mpr ⟨⟨s_ldAn dX12_lamps_197 rfl, s_mo_ldA _ _⟩, (List.forall_mem_cons.mpr ⟨⟨s_getf (ci := 8) (k := 26) rfl (by decide) inX12 w_1247 dX12_lamps_198, s_mo_getf _ _ _⟩, (List.forall_mem_cons.mpr ⟨⟨s_iconst dX12_lamps_201 (by decide +kernel), s_mo_push _ _⟩, (List.forall_mem_cons.mpr ⟨⟨s_ldI dX12_lamps_202, s_mo_ldI _ _⟩, (List.forall_mem_cons.mpr ⟨⟨s_iast dX12_lamps_204, s_mo_iast _⟩, (List.forall_mem_cons.mpr ⟨⟨s_ldAn dX12_lamps_205 rfl, s_mo_ldA _ _⟩, (List.forall_mem_cons.mpr ⟨⟨s_getf (ci := 8) (k := 26) rfl (by decide) inX12 w_1247 dX12_lamps_206, s_mo_getf _ _ _⟩, (List.forall_mem_cons.mpr ⟨⟨s_iconst dX12_lamps_209 (by decide +kernel), s_mo_push _ _⟩, (List.forall_mem_cons.mpr ⟨⟨s_ldI dX12_lamps_210, s_mo_ldI _ _⟩, (List.forall_mem_cons.mpr ⟨⟨s_iast dX12_lamps_212, s_mo_iast _⟩, (List.forall_mem_cons.mpr ⟨⟨s_ldAn dX12_lamps_213 rfl, s_mo_ldA _ _⟩, (List.forall_mem_cons.mpr ⟨⟨s_ldIn dX12_lamps_214 rfl, s_mo_ldI _ _⟩, (List.forall_mem_cons.mpr ⟨⟨s_iconst dX12_lamps_215 (by decide +kernel), s_mo_push _ _⟩, (List.forall_mem_cons.mpr ⟨⟨s_sV mk_252 mk_251 ok_251 (by decide +kernel) dX12_lamps_216 w_1729 w_1731 wp_81 (Or.inr ⟨8, _, _, rfl, rfl⟩), s_h0 mk_252⟩, (List.forall_mem_cons.mpr ⟨⟨s_ifeq dX12_lamps_219 (by decide), s_mo_ifeq _ _⟩, (List.forall_mem_cons.mpr ⟨⟨s_iconst dX12_lamps_222 (by decide +kernel), s_mo_push _ _⟩, (List.forall_mem_cons.mpr ⟨⟨s_ldIn dX12_lamps_223 rfl, s_mo_ldI _ _⟩, (List.forall_mem_cons.mpr ⟨⟨s_ishl dX12_lamps_224, s_mo_bin _ _⟩, (List.forall_mem_cons.mpr ⟨⟨s_iconst dX12_lamps_225 (by decide +kernel), s_mo_push _ _⟩, (List.forall_mem_cons.mpr ⟨⟨s_ldI dX12_lamps_226, s_mo_ldI _ _⟩, (List.forall_mem_cons.mpr ⟨⟨s_ishl dX12_lamps_228, s_mo_bin _ _⟩, (List.forall_mem_cons.mpr ⟨⟨s_ior dX12_lamps_229, s_mo_bin _ _⟩, (List.forall_mem_cons.mpr ⟨⟨s_iconst dX12_lamps_230 (by decide +kernel), s_mo_push _ _⟩, (List.forall_mem_cons.mpr ⟨⟨s_ldI dX12_lamps_231, s_mo_ldI _ _⟩, (List.forall_mem_cons.mpr ⟨⟨s_ishl dX12_lamps_233, s_mo_bin _ _⟩, (List.forall_mem_cons.mpr ⟨⟨s_ior dX12_lamps_234, s_mo_bin _ _⟩, (List.forall_mem_cons.mpr ⟨s_r1 mk_252 dX12_lamps_235, (List.forall_mem_cons.mpr ⟨⟨s_inc dX12_lamps_236 (by decide +kernel), s_mo_inc _ _ _⟩, (List.forall_mem_cons.mpr ⟨⟨s_goto dX12_lamps_239 (by decide), s_mo_goto _⟩, (List.forall_mem_cons.mpr ⟨⟨s_inc dX12_lamps_242 (by decide +kernel), s_mo_inc _ _ _⟩, (List.forall_mem_cons.mpr ⟨⟨s_goto dX12_lamps_245 (by decide), s_mo_goto _⟩, (List.forall_mem_cons.mpr ⟨⟨s_inc dX12_lamps_248 (by decide +kernel), s_mo_inc _ _ _⟩, (List.forall_mem_cons.mpr ⟨⟨s_goto dX12_lamps_251 (by decide), s_mo_goto _⟩, (List.forall_mem_cons.mpr ⟨⟨s_iconst dX12_lamps_254 (by decide +kernel), s_mo_push _ _⟩, (List.forall_mem_cons.mpr ⟨s_r1 mk_252 dX12_lamps_255, (fun _ h => absurd h List.not_mem_nil)⟩)⟩)⟩)⟩)⟩)⟩)⟩)⟩)⟩)⟩)⟩)⟩)⟩)⟩)⟩)⟩)⟩)⟩)⟩)⟩)⟩)⟩)⟩)⟩)⟩)⟩)⟩)⟩)⟩)⟩)⟩)⟩)⟩)⟩)⟩)⟩)⟩)⟩)
theorem km_252 : ∀ t ∈ tm_252, s_tok 252 t := (List.forall_mem_cons.mpr ⟨s_lift mk_252 kb_252_0, (List.forall_mem_cons.mpr ⟨s_lift mk_252 kb_252_1, (List.forall_mem_cons.mpr ⟨s_lift mk_252 kb_252_2, (List.forall_mem_cons.mpr ⟨s_lift mk_252 kb_252_3, (fun _ h => absurd h List.not_mem_nil)⟩)⟩)⟩)⟩)
theorem dX12_count_0 : decode cX12_count 0 = .ok (.aload_n 0, 1) := by decide +kernel
theorem dX12_count_1 : decode cX12_count 1 = .ok (.iconst 0, 1) := by decide +kernel
theorem dX12_count_2 : decode cX12_count 2 = .ok (.putfield 3, 3) := by decide +kernel
theorem dX12_count_5 : decode cX12_count 5 = .ok (.iconst 0, 1) := by decide +kernel
theorem dX12_count_6 : decode cX12_count 6 = .ok (.istore_n 2, 1) := by decide +kernel
theorem dX12_count_7 : decode cX12_count 7 = .ok (.iload_n 1, 1) := by decide +kernel
theorem dX12_count_8 : decode cX12_count 8 = .ok (.tableswitch 179 0 9 #[56, 61, 68, 75, 82, 105, 112, 139, 147, 152], 56) := by decide +kernel
theorem dX12_count_64 : decode cX12_count 64 = .ok (.aload_n 0, 1) := by decide +kernel
theorem dX12_count_65 : decode cX12_count 65 = .ok (.invokevirtual 92, 3) := by decide +kernel
theorem dX12_count_68 : decode cX12_count 68 = .ok (.ireturn, 1) := by decide +kernel
theorem dX12_count_69 : decode cX12_count 69 = .ok (.aload_n 0, 1) := by decide +kernel
theorem dX12_count_70 : decode cX12_count 70 = .ok (.getfield 13, 3) := by decide +kernel
theorem dX12_count_73 : decode cX12_count 73 = .ok (.iconst 1, 1) := by decide +kernel
theorem dX12_count_74 : decode cX12_count 74 = .ok (.iaload, 1) := by decide +kernel
theorem dX12_count_75 : decode cX12_count 75 = .ok (.ireturn, 1) := by decide +kernel
theorem dX12_count_76 : decode cX12_count 76 = .ok (.aload_n 0, 1) := by decide +kernel
theorem dX12_count_77 : decode cX12_count 77 = .ok (.getfield 13, 3) := by decide +kernel
theorem dX12_count_80 : decode cX12_count 80 = .ok (.iconst 2, 1) := by decide +kernel
theorem dX12_count_81 : decode cX12_count 81 = .ok (.iaload, 1) := by decide +kernel
theorem dX12_count_82 : decode cX12_count 82 = .ok (.ireturn, 1) := by decide +kernel
theorem dX12_count_83 : decode cX12_count 83 = .ok (.aload_n 0, 1) := by decide +kernel
theorem dX12_count_84 : decode cX12_count 84 = .ok (.getfield 13, 3) := by decide +kernel
theorem dX12_count_87 : decode cX12_count 87 = .ok (.iconst 3, 1) := by decide +kernel
theorem dX12_count_88 : decode cX12_count 88 = .ok (.iaload, 1) := by decide +kernel
theorem dX12_count_89 : decode cX12_count 89 = .ok (.ireturn, 1) := by decide +kernel
theorem dX12_count_90 : decode cX12_count 90 = .ok (.aload_n 0, 1) := by decide +kernel
theorem dX12_count_91 : decode cX12_count 91 = .ok (.getfield 13, 3) := by decide +kernel
theorem dX12_count_94 : decode cX12_count 94 = .ok (.iconst 4, 1) := by decide +kernel
theorem dX12_count_95 : decode cX12_count 95 = .ok (.iaload, 1) := by decide +kernel
theorem dX12_count_96 : decode cX12_count 96 = .ok (.iconst 1, 1) := by decide +kernel
theorem dX12_count_97 : decode cX12_count 97 = .ok (.if_icmp .ne 14, 3) := by decide +kernel
theorem dX12_count_100 : decode cX12_count 100 = .ok (.aload_n 0, 1) := by decide +kernel
theorem dX12_count_101 : decode cX12_count 101 = .ok (.getfield 13, 3) := by decide +kernel
theorem dX12_count_104 : decode cX12_count 104 = .ok (.sipush 427, 3) := by decide +kernel
theorem dX12_count_107 : decode cX12_count 107 = .ok (.iaload, 1) := by decide +kernel
theorem dX12_count_108 : decode cX12_count 108 = .ok (.goto 4, 3) := by decide +kernel
theorem dX12_count_111 : decode cX12_count 111 = .ok (.iconst (-1), 1) := by decide +kernel
theorem dX12_count_112 : decode cX12_count 112 = .ok (.ireturn, 1) := by decide +kernel
theorem dX12_count_113 : decode cX12_count 113 = .ok (.aload_n 0, 1) := by decide +kernel
theorem dX12_count_114 : decode cX12_count 114 = .ok (.getfield 13, 3) := by decide +kernel
theorem dX12_count_117 : decode cX12_count 117 = .ok (.iconst 5, 1) := by decide +kernel
theorem dX12_count_118 : decode cX12_count 118 = .ok (.iaload, 1) := by decide +kernel
theorem dX12_count_119 : decode cX12_count 119 = .ok (.ireturn, 1) := by decide +kernel
theorem dX12_count_120 : decode cX12_count 120 = .ok (.iconst 0, 1) := by decide +kernel
theorem dX12_count_121 : decode cX12_count 121 = .ok (.istore_n 3, 1) := by decide +kernel
theorem dX12_count_122 : decode cX12_count 122 = .ok (.iload_n 3, 1) := by decide +kernel
theorem dX12_count_123 : decode cX12_count 123 = .ok (.aload_n 0, 1) := by decide +kernel
theorem dX12_count_124 : decode cX12_count 124 = .ok (.invokevirtual 80, 3) := by decide +kernel
theorem dX12_count_127 : decode cX12_count 127 = .ok (.if_icmp .ge 18, 3) := by decide +kernel
theorem dX12_count_130 : decode cX12_count 130 = .ok (.iload_n 2, 1) := by decide +kernel
theorem dX12_count_131 : decode cX12_count 131 = .ok (.aload_n 0, 1) := by decide +kernel
theorem dX12_count_132 : decode cX12_count 132 = .ok (.iload_n 3, 1) := by decide +kernel
theorem dX12_count_133 : decode cX12_count 133 = .ok (.iconst 3, 1) := by decide +kernel
theorem dX12_count_134 : decode cX12_count 134 = .ok (.invokevirtual 88, 3) := by decide +kernel
theorem dX12_count_137 : decode cX12_count 137 = .ok (.iadd, 1) := by decide +kernel
theorem dX12_count_138 : decode cX12_count 138 = .ok (.istore_n 2, 1) := by decide +kernel
theorem dX12_count_139 : decode cX12_count 139 = .ok (.iinc 3 1, 3) := by decide +kernel
theorem dX12_count_142 : decode cX12_count 142 = .ok (.goto (-20), 3) := by decide +kernel
theorem dX12_count_145 : decode cX12_count 145 = .ok (.iload_n 2, 1) := by decide +kernel
theorem dX12_count_146 : decode cX12_count 146 = .ok (.ireturn, 1) := by decide +kernel
theorem dX12_count_147 : decode cX12_count 147 = .ok (.aload_n 0, 1) := by decide +kernel
theorem dX12_count_148 : decode cX12_count 148 = .ok (.invokevirtual 356, 3) := by decide +kernel
theorem dX12_count_151 : decode cX12_count 151 = .ok (.invokestatic 326, 3) := by decide +kernel
theorem dX12_count_154 : decode cX12_count 154 = .ok (.ireturn, 1) := by decide +kernel
theorem dX12_count_155 : decode cX12_count 155 = .ok (.aload_n 0, 1) := by decide +kernel
theorem dX12_count_156 : decode cX12_count 156 = .ok (.getfield 77, 3) := by decide +kernel
theorem dX12_count_159 : decode cX12_count 159 = .ok (.ireturn, 1) := by decide +kernel
theorem dX12_count_160 : decode cX12_count 160 = .ok (.iconst 0, 1) := by decide +kernel
theorem dX12_count_161 : decode cX12_count 161 = .ok (.istore_n 3, 1) := by decide +kernel
theorem dX12_count_162 : decode cX12_count 162 = .ok (.iload_n 3, 1) := by decide +kernel
theorem dX12_count_163 : decode cX12_count 163 = .ok (.aload_n 0, 1) := by decide +kernel
theorem dX12_count_164 : decode cX12_count 164 = .ok (.invokevirtual 80, 3) := by decide +kernel
theorem dX12_count_167 : decode cX12_count 167 = .ok (.if_icmp .ge 18, 3) := by decide +kernel
theorem dX12_count_170 : decode cX12_count 170 = .ok (.iload_n 2, 1) := by decide +kernel
theorem dX12_count_171 : decode cX12_count 171 = .ok (.aload_n 0, 1) := by decide +kernel
theorem dX12_count_172 : decode cX12_count 172 = .ok (.iload_n 3, 1) := by decide +kernel
theorem dX12_count_173 : decode cX12_count 173 = .ok (.iconst 2, 1) := by decide +kernel
theorem dX12_count_174 : decode cX12_count 174 = .ok (.invokevirtual 88, 3) := by decide +kernel
theorem dX12_count_177 : decode cX12_count 177 = .ok (.iadd, 1) := by decide +kernel
theorem dX12_count_178 : decode cX12_count 178 = .ok (.istore_n 2, 1) := by decide +kernel
theorem dX12_count_179 : decode cX12_count 179 = .ok (.iinc 3 1, 3) := by decide +kernel
theorem dX12_count_182 : decode cX12_count 182 = .ok (.goto (-20), 3) := by decide +kernel
theorem dX12_count_185 : decode cX12_count 185 = .ok (.iload_n 2, 1) := by decide +kernel
theorem dX12_count_186 : decode cX12_count 186 = .ok (.ireturn, 1) := by decide +kernel
theorem dX12_count_187 : decode cX12_count 187 = .ok (.iconst (-1), 1) := by decide +kernel
theorem dX12_count_188 : decode cX12_count 188 = .ok (.ireturn, 1) := by decide +kernel
set_option maxRecDepth 20000 in
theorem kb_253_0 : ∀ q ∈ tb_253_0, s_atx 253 yX12_count cX12_count q.1 q.2 := (List.forall_mem_cons.mpr ⟨⟨s_ldAn dX12_count_0 rfl, s_mo_ldA _ _⟩, (List.forall_mem_cons.mpr ⟨⟨s_iconst dX12_count_1 (by decide +kernel), s_mo_push _ _⟩, (List.forall_mem_cons.mpr ⟨⟨s_putI (ci := 8) (k := 0) rfl (by decide) inX12 tyX12_ok nmX12 rfl rfl w_1221 dX12_count_2, s_mo_putI _ _ _⟩, (List.forall_mem_cons.mpr ⟨⟨s_iconst dX12_count_5 (by decide +kernel), s_mo_push _ _⟩, (List.forall_mem_cons.mpr ⟨⟨s_stIn dX12_count_6 rfl, s_mo_stI _ _⟩, (List.forall_mem_cons.mpr ⟨⟨s_ldIn dX12_count_7 rfl, s_mo_ldI _ _⟩, (List.forall_mem_cons.mpr ⟨⟨s_table dX12_count_8 (by decide) (by decide) (by decide +kernel), s_mo_table _ _ _⟩, (fun _ h => absurd h List.not_mem_nil)⟩)⟩)⟩)⟩)⟩)⟩)⟩)
set_option maxRecDepth 20000 in
theorem kb_253_1 : ∀ q ∈ tb_253_1, s_atx 253 yX12_count cX12_count q.1 q.2 := (List.forall_mem_cons.mpr ⟨⟨s_ldAn dX12_count_64 rfl, s_mo_ldA _ _⟩, (List.forall_mem_cons.mpr ⟨⟨s_sV mk_253 mk_155 ok_155 (by decide +kernel) dX12_count_65 w_1375 w_1377 wp_36 (Or.inr ⟨8, _, _, rfl, rfl⟩), s_h0 mk_253⟩, (List.forall_mem_cons.mpr ⟨s_r1 mk_253 dX12_count_68, (List.forall_mem_cons.mpr ⟨⟨s_ldAn dX12_count_69 rfl, s_mo_ldA _ _⟩, (List.forall_mem_cons.mpr ⟨⟨s_getf (ci := 8) (k := 1) rfl (by decide) inX12 w_1222 dX12_count_70, s_mo_getf _ _ _⟩, (List.forall_mem_cons.mpr ⟨⟨s_iconst dX12_count_73 (by decide +kernel), s_mo_push _ _⟩, (List.forall_mem_cons.mpr ⟨⟨s_iald dX12_count_74, s_mo_iald _⟩, (List.forall_mem_cons.mpr ⟨s_r1 mk_253 dX12_count_75, (List.forall_mem_cons.mpr ⟨⟨s_ldAn dX12_count_76 rfl, s_mo_ldA _ _⟩, (List.forall_mem_cons.mpr ⟨⟨s_getf (ci := 8) (k := 1) rfl (by decide) inX12 w_1222 dX12_count_77, s_mo_getf _ _ _⟩, (List.forall_mem_cons.mpr ⟨⟨s_iconst dX12_count_80 (by decide +kernel), s_mo_push _ _⟩, (List.forall_mem_cons.mpr ⟨⟨s_iald dX12_count_81, s_mo_iald _⟩, (List.forall_mem_cons.mpr ⟨s_r1 mk_253 dX12_count_82, (List.forall_mem_cons.mpr ⟨⟨s_ldAn dX12_count_83 rfl, s_mo_ldA _ _⟩, (List.forall_mem_cons.mpr ⟨⟨s_getf (ci := 8) (k := 1) rfl (by decide) inX12 w_1222 dX12_count_84, s_mo_getf _ _ _⟩, (List.forall_mem_cons.mpr ⟨⟨s_iconst dX12_count_87 (by decide +kernel), s_mo_push _ _⟩, (List.forall_mem_cons.mpr ⟨⟨s_iald dX12_count_88, s_mo_iald _⟩, (List.forall_mem_cons.mpr ⟨s_r1 mk_253 dX12_count_89, (List.forall_mem_cons.mpr ⟨⟨s_ldAn dX12_count_90 rfl, s_mo_ldA _ _⟩, (List.forall_mem_cons.mpr ⟨⟨s_getf (ci := 8) (k := 1) rfl (by decide) inX12 w_1222 dX12_count_91, s_mo_getf _ _ _⟩, (List.forall_mem_cons.mpr ⟨⟨s_iconst dX12_count_94 (by decide +kernel), s_mo_push _ _⟩, (List.forall_mem_cons.mpr ⟨⟨s_iald dX12_count_95, s_mo_iald _⟩, (List.forall_mem_cons.mpr ⟨⟨s_iconst dX12_count_96 (by decide +kernel), s_mo_push _ _⟩, (List.forall_mem_cons.mpr ⟨⟨s_icne dX12_count_97 (by decide), s_mo_icne _ _⟩, (List.forall_mem_cons.mpr ⟨⟨s_ldAn dX12_count_100 rfl, s_mo_ldA _ _⟩, (List.forall_mem_cons.mpr ⟨⟨s_getf (ci := 8) (k := 1) rfl (by decide) inX12 w_1222 dX12_count_101, s_mo_getf _ _ _⟩, (List.forall_mem_cons.mpr ⟨⟨s_sipush dX12_count_104 (by decide +kernel), s_mo_push _ _⟩, (List.forall_mem_cons.mpr ⟨⟨s_iald dX12_count_107, s_mo_iald _⟩, (List.forall_mem_cons.mpr ⟨⟨s_goto dX12_count_108 (by decide), s_mo_goto _⟩, (List.forall_mem_cons.mpr ⟨⟨s_iconst dX12_count_111 (by decide +kernel), s_mo_push _ _⟩, (List.forall_mem_cons.mpr ⟨s_r1 mk_253 dX12_count_112, (List.forall_mem_cons.mpr ⟨⟨s_ldAn dX12_count_113 rfl, s_mo_ldA _ _⟩, (List.forall_mem_cons.mpr ⟨⟨s_getf (ci := 8) (k := 1) rfl (by decide) inX12 w_1222 dX12_count_114, s_mo_getf _ _ _⟩, (List.forall_mem_cons.mpr ⟨⟨s_iconst dX12_count_117 (by decide +kernel), s_mo_push _ _⟩, (List.forall_mem_cons.mpr ⟨⟨s_iald dX12_count_118, s_mo_iald _⟩, (List.forall_mem_cons.mpr ⟨s_r1 mk_253 dX12_count_119, (List.forall_mem_cons.mpr ⟨⟨s_iconst dX12_count_120 (by decide +kernel), s_mo_push _ _⟩, (List.forall_mem_cons.mpr ⟨⟨s_stIn dX12_count_121 rfl, s_mo_stI _ _⟩, (List.forall_mem_cons.mpr ⟨⟨s_ldIn dX12_count_122 rfl, s_mo_ldI _ _⟩, (List.forall_mem_cons.mpr ⟨⟨s_ldAn dX12_count_123 rfl, s_mo_ldA _ _⟩, (List.forall_mem_cons.mpr ⟨⟨s_sV mk_253 mk_156 ok_156 (by decide +kernel) dX12_count_124 w_1454 w_1456 wp_49 (Or.inr ⟨8, _, _, rfl, rfl⟩), s_h0 mk_253⟩, (List.forall_mem_cons.mpr ⟨⟨s_icge dX12_count_127 (by decide), s_mo_icge _ _⟩, (fun _ h => absurd h List.not_mem_nil)⟩)⟩)⟩)⟩)⟩)⟩)⟩)⟩)⟩)⟩)⟩)⟩)⟩)⟩)⟩)⟩)⟩)⟩)⟩)⟩)⟩)⟩)⟩)⟩)⟩)⟩)⟩)⟩)⟩)⟩)⟩)⟩)⟩)⟩)⟩)⟩)⟩)⟩)⟩)⟩)⟩)⟩)
set_option maxRecDepth 20000 in
theorem kb_253_2 : ∀ q ∈ tb_253_2, s_atx 253 yX12_count cX12_count q.1 q.2 := (List.forall_mem_cons.mpr ⟨⟨s_ldIn dX12_count_130 rfl, s_mo_ldI _ _⟩, (List.forall_mem_cons.mpr ⟨⟨s_ldAn dX12_count_131 rfl, s_mo_ldA _ _⟩, (List.forall_mem_cons.mpr ⟨⟨s_ldIn dX12_count_132 rfl, s_mo_ldI _ _⟩, (List.forall_mem_cons.mpr ⟨⟨s_iconst dX12_count_133 (by decide +kernel), s_mo_push _ _⟩, (List.forall_mem_cons.mpr ⟨⟨s_sV mk_253 mk_158 ok_158 (by decide +kernel) dX12_count_134 w_1469 w_1471 wp_52 (Or.inr ⟨8, _, _, rfl, rfl⟩), s_h0 mk_253⟩, (List.forall_mem_cons.mpr ⟨⟨s_iadd dX12_count_137, s_mo_bin _ _⟩, (List.forall_mem_cons.mpr ⟨⟨s_stIn dX12_count_138 rfl, s_mo_stI _ _⟩, (List.forall_mem_cons.mpr ⟨⟨s_inc dX12_count_139 (by decide +kernel), s_mo_inc _ _ _⟩, (List.forall_mem_cons.mpr ⟨⟨s_goto dX12_count_142 (by decide), s_mo_goto _⟩, (List.forall_mem_cons.mpr ⟨⟨s_ldIn dX12_count_145 rfl, s_mo_ldI _ _⟩, (List.forall_mem_cons.mpr ⟨s_r1 mk_253 dX12_count_146, (List.forall_mem_cons.mpr ⟨⟨s_ldAn dX12_count_147 rfl, s_mo_ldA _ _⟩, (List.forall_mem_cons.mpr ⟨⟨s_sV mk_253 mk_243 ok_243 (by decide +kernel) dX12_count_148 w_1697 w_1699 wp_77 (Or.inr ⟨8, _, _, rfl, rfl⟩), s_h0 mk_253⟩, (List.forall_mem_cons.mpr ⟨⟨s_sS mk_253 mk_254 ok_254 (by decide +kernel) dX12_count_151 w_1628 w_422, s_h0 mk_253⟩, (List.forall_mem_cons.mpr ⟨s_r1 mk_253 dX12_count_154, (List.forall_mem_cons.mpr ⟨⟨s_ldAn dX12_count_155 rfl, s_mo_ldA _ _⟩, (List.forall_mem_cons.mpr ⟨⟨s_getf (ci := 8) (k := 6) rfl (by decide) inX12 w_1227 dX12_count_156, s_mo_getf _ _ _⟩, (List.forall_mem_cons.mpr ⟨s_r1 mk_253 dX12_count_159, (List.forall_mem_cons.mpr ⟨⟨s_iconst dX12_count_160 (by decide +kernel), s_mo_push _ _⟩, (List.forall_mem_cons.mpr ⟨⟨s_stIn dX12_count_161 rfl, s_mo_stI _ _⟩, (List.forall_mem_cons.mpr ⟨⟨s_ldIn dX12_count_162 rfl, s_mo_ldI _ _⟩, (List.forall_mem_cons.mpr ⟨⟨s_ldAn dX12_count_163 rfl, s_mo_ldA _ _⟩, (List.forall_mem_cons.mpr ⟨⟨s_sV mk_253 mk_156 ok_156 (by decide +kernel) dX12_count_164 w_1454 w_1456 wp_49 (Or.inr ⟨8, _, _, rfl, rfl⟩), s_h0 mk_253⟩, (List.forall_mem_cons.mpr ⟨⟨s_icge dX12_count_167 (by decide), s_mo_icge _ _⟩, (List.forall_mem_cons.mpr ⟨⟨s_ldIn dX12_count_170 rfl, s_mo_ldI _ _⟩, (List.forall_mem_cons.mpr ⟨⟨s_ldAn dX12_count_171 rfl, s_mo_ldA _ _⟩, (List.forall_mem_cons.mpr ⟨⟨s_ldIn dX12_count_172 rfl, s_mo_ldI _ _⟩, (List.forall_mem_cons.mpr ⟨⟨s_iconst dX12_count_173 (by decide +kernel), s_mo_push _ _⟩, (List.forall_mem_cons.mpr ⟨⟨s_sV mk_253 mk_158 ok_158 (by decide +kernel) dX12_count_174 w_1469 w_1471 wp_52 (Or.inr ⟨8, _, _, rfl, rfl⟩), s_h0 mk_253⟩, (List.forall_mem_cons.mpr ⟨⟨s_iadd dX12_count_177, s_mo_bin _ _⟩, (List.forall_mem_cons.mpr ⟨⟨s_stIn dX12_count_178 rfl, s_mo_stI _ _⟩, (List.forall_mem_cons.mpr ⟨⟨s_inc dX12_count_179 (by decide +kernel), s_mo_inc _ _ _⟩, (List.forall_mem_cons.mpr ⟨⟨s_goto dX12_count_182 (by decide), s_mo_goto _⟩, (List.forall_mem_cons.mpr ⟨⟨s_ldIn dX12_count_185 rfl, s_mo_ldI _ _⟩, (List.forall_mem_cons.mpr ⟨s_r1 mk_253 dX12_count_186, (List.forall_mem_cons.mpr ⟨⟨s_iconst dX12_count_187 (by decide +kernel), s_mo_push _ _⟩, (List.forall_mem_cons.mpr ⟨s_r1 mk_253 dX12_count_188, (fun _ h => absurd h List.not_mem_nil)⟩)⟩)⟩)⟩)⟩)⟩)⟩)⟩)⟩)⟩)⟩)⟩)⟩)⟩)⟩)⟩)⟩)⟩)⟩)⟩)⟩)⟩)⟩)⟩)⟩)⟩)⟩)⟩)⟩)⟩)⟩)⟩)⟩)⟩)⟩)⟩)⟩)
theorem km_253 : ∀ t ∈ tm_253, s_tok 253 t := (List.forall_mem_cons.mpr ⟨s_lift mk_253 kb_253_0, (List.forall_mem_cons.mpr ⟨s_lift mk_253 kb_253_1, (List.forall_mem_cons.mpr ⟨s_lift mk_253 kb_253_2, (fun _ h => absurd h List.not_mem_nil)⟩)⟩)⟩)
theorem dJ6_bitCount_0f7a4_0 : decode cJ6_bitCount_0f7a4 0 = .ok (.iload_n 0, 1) := by decide +kernel
theorem dJ6_bitCount_0f7a4_1 : decode cJ6_bitCount_0f7a4 1 = .ok (.iload_n 0, 1) := by decide +kernel
theorem dJ6_bitCount_0f7a4_2 : decode cJ6_bitCount_0f7a4 2 = .ok (.iconst 1, 1) := by decide +kernel
theorem dJ6_bitCount_0f7a4_3 : decode cJ6_bitCount_0f7a4 3 = .ok (.iushr, 1) := by decide +kernel
theorem dJ6_bitCount_0f7a4_4 : decode cJ6_bitCount_0f7a4 4 = .ok (.ldc_w 265, 3) := by decide +kernel
theorem dJ6_bitCount_0f7a4_7 : decode cJ6_bitCount_0f7a4 7 = .ok (.iand, 1) := by decide +kernel
theorem dJ6_bitCount_0f7a4_8 : decode cJ6_bitCount_0f7a4 8 = .ok (.isub, 1) := by decide +kernel
theorem dJ6_bitCount_0f7a4_9 : decode cJ6_bitCount_0f7a4 9 = .ok (.istore_n 0, 1) := by decide +kernel
theorem dJ6_bitCount_0f7a4_10 : decode cJ6_bitCount_0f7a4 10 = .ok (.iload_n 0, 1) := by decide +kernel
theorem dJ6_bitCount_0f7a4_11 : decode cJ6_bitCount_0f7a4 11 = .ok (.ldc_w 266, 3) := by decide +kernel
theorem dJ6_bitCount_0f7a4_14 : decode cJ6_bitCount_0f7a4 14 = .ok (.iand, 1) := by decide +kernel
theorem dJ6_bitCount_0f7a4_15 : decode cJ6_bitCount_0f7a4 15 = .ok (.iload_n 0, 1) := by decide +kernel
theorem dJ6_bitCount_0f7a4_16 : decode cJ6_bitCount_0f7a4 16 = .ok (.iconst 2, 1) := by decide +kernel
theorem dJ6_bitCount_0f7a4_17 : decode cJ6_bitCount_0f7a4 17 = .ok (.iushr, 1) := by decide +kernel
theorem dJ6_bitCount_0f7a4_18 : decode cJ6_bitCount_0f7a4 18 = .ok (.ldc_w 266, 3) := by decide +kernel
theorem dJ6_bitCount_0f7a4_21 : decode cJ6_bitCount_0f7a4 21 = .ok (.iand, 1) := by decide +kernel
theorem dJ6_bitCount_0f7a4_22 : decode cJ6_bitCount_0f7a4 22 = .ok (.iadd, 1) := by decide +kernel
theorem dJ6_bitCount_0f7a4_23 : decode cJ6_bitCount_0f7a4 23 = .ok (.istore_n 0, 1) := by decide +kernel
theorem dJ6_bitCount_0f7a4_24 : decode cJ6_bitCount_0f7a4 24 = .ok (.iload_n 0, 1) := by decide +kernel
theorem dJ6_bitCount_0f7a4_25 : decode cJ6_bitCount_0f7a4 25 = .ok (.iload_n 0, 1) := by decide +kernel
theorem dJ6_bitCount_0f7a4_26 : decode cJ6_bitCount_0f7a4 26 = .ok (.iconst 4, 1) := by decide +kernel
theorem dJ6_bitCount_0f7a4_27 : decode cJ6_bitCount_0f7a4 27 = .ok (.iushr, 1) := by decide +kernel
theorem dJ6_bitCount_0f7a4_28 : decode cJ6_bitCount_0f7a4 28 = .ok (.iadd, 1) := by decide +kernel
theorem dJ6_bitCount_0f7a4_29 : decode cJ6_bitCount_0f7a4 29 = .ok (.ldc_w 267, 3) := by decide +kernel
theorem dJ6_bitCount_0f7a4_32 : decode cJ6_bitCount_0f7a4 32 = .ok (.iand, 1) := by decide +kernel
theorem dJ6_bitCount_0f7a4_33 : decode cJ6_bitCount_0f7a4 33 = .ok (.istore_n 0, 1) := by decide +kernel
theorem dJ6_bitCount_0f7a4_34 : decode cJ6_bitCount_0f7a4 34 = .ok (.iload_n 0, 1) := by decide +kernel
theorem dJ6_bitCount_0f7a4_35 : decode cJ6_bitCount_0f7a4 35 = .ok (.iload_n 0, 1) := by decide +kernel
theorem dJ6_bitCount_0f7a4_36 : decode cJ6_bitCount_0f7a4 36 = .ok (.bipush 8, 2) := by decide +kernel
theorem dJ6_bitCount_0f7a4_38 : decode cJ6_bitCount_0f7a4 38 = .ok (.iushr, 1) := by decide +kernel
theorem dJ6_bitCount_0f7a4_39 : decode cJ6_bitCount_0f7a4 39 = .ok (.iadd, 1) := by decide +kernel
theorem dJ6_bitCount_0f7a4_40 : decode cJ6_bitCount_0f7a4 40 = .ok (.istore_n 0, 1) := by decide +kernel
theorem dJ6_bitCount_0f7a4_41 : decode cJ6_bitCount_0f7a4 41 = .ok (.iload_n 0, 1) := by decide +kernel
theorem dJ6_bitCount_0f7a4_42 : decode cJ6_bitCount_0f7a4 42 = .ok (.iload_n 0, 1) := by decide +kernel
theorem dJ6_bitCount_0f7a4_43 : decode cJ6_bitCount_0f7a4 43 = .ok (.bipush 16, 2) := by decide +kernel
theorem dJ6_bitCount_0f7a4_45 : decode cJ6_bitCount_0f7a4 45 = .ok (.iushr, 1) := by decide +kernel
theorem dJ6_bitCount_0f7a4_46 : decode cJ6_bitCount_0f7a4 46 = .ok (.iadd, 1) := by decide +kernel
theorem dJ6_bitCount_0f7a4_47 : decode cJ6_bitCount_0f7a4 47 = .ok (.istore_n 0, 1) := by decide +kernel
theorem dJ6_bitCount_0f7a4_48 : decode cJ6_bitCount_0f7a4 48 = .ok (.iload_n 0, 1) := by decide +kernel
theorem dJ6_bitCount_0f7a4_49 : decode cJ6_bitCount_0f7a4 49 = .ok (.bipush 63, 2) := by decide +kernel
theorem dJ6_bitCount_0f7a4_51 : decode cJ6_bitCount_0f7a4 51 = .ok (.iand, 1) := by decide +kernel
theorem dJ6_bitCount_0f7a4_52 : decode cJ6_bitCount_0f7a4 52 = .ok (.ireturn, 1) := by decide +kernel
set_option maxRecDepth 20000 in
theorem kb_254_0 : ∀ q ∈ tb_254_0, s_atx 254 yJ6_bitCount_0f7a4 cJ6_bitCount_0f7a4 q.1 q.2 := (List.forall_mem_cons.mpr ⟨⟨s_ldIn dJ6_bitCount_0f7a4_0 rfl, s_mo_ldI _ _⟩, (List.forall_mem_cons.mpr ⟨⟨s_ldIn dJ6_bitCount_0f7a4_1 rfl, s_mo_ldI _ _⟩, (List.forall_mem_cons.mpr ⟨⟨s_iconst dJ6_bitCount_0f7a4_2 (by decide +kernel), s_mo_push _ _⟩, (List.forall_mem_cons.mpr ⟨⟨s_iushr dJ6_bitCount_0f7a4_3, s_mo_bin _ _⟩, (List.forall_mem_cons.mpr ⟨⟨s_ldcw w_424 dJ6_bitCount_0f7a4_4, s_mo_push _ _⟩, (List.forall_mem_cons.mpr ⟨⟨s_iand dJ6_bitCount_0f7a4_7, s_mo_bin _ _⟩, (List.forall_mem_cons.mpr ⟨⟨s_isub dJ6_bitCount_0f7a4_8, s_mo_bin _ _⟩, (List.forall_mem_cons.mpr ⟨⟨s_stIn dJ6_bitCount_0f7a4_9 rfl, s_mo_stI _ _⟩, (List.forall_mem_cons.mpr ⟨⟨s_ldIn dJ6_bitCount_0f7a4_10 rfl, s_mo_ldI _ _⟩, (List.forall_mem_cons.mpr ⟨⟨s_ldcw w_425 dJ6_bitCount_0f7a4_11, s_mo_push _ _⟩, (List.forall_mem_cons.mpr ⟨⟨s_iand dJ6_bitCount_0f7a4_14, s_mo_bin _ _⟩, (List.forall_mem_cons.mpr ⟨⟨s_ldIn dJ6_bitCount_0f7a4_15 rfl, s_mo_ldI _ _⟩, (List.forall_mem_cons.mpr ⟨⟨s_iconst dJ6_bitCount_0f7a4_16 (by decide +kernel), s_mo_push _ _⟩, (List.forall_mem_cons.mpr ⟨⟨s_iushr dJ6_bitCount_0f7a4_17, s_mo_bin _ _⟩, (List.forall_mem_cons.mpr ⟨⟨s_ldcw w_425 dJ6_bitCount_0f7a4_18, s_mo_push _ _⟩, (List.forall_mem_cons.mpr ⟨⟨s_iand dJ6_bitCount_0f7a4_21, s_mo_bin _ _⟩, (List.forall_mem_cons.mpr ⟨⟨s_iadd dJ6_bitCount_0f7a4_22, s_mo_bin _ _⟩, (List.forall_mem_cons.mpr ⟨⟨s_stIn dJ6_bitCount_0f7a4_23 rfl, s_mo_stI _ _⟩, (List.forall_mem_cons.mpr ⟨⟨s_ldIn dJ6_bitCount_0f7a4_24 rfl, s_mo_ldI _ _⟩, (List.forall_mem_cons.mpr ⟨⟨s_ldIn dJ6_bitCount_0f7a4_25 rfl, s_mo_ldI _ _⟩, (List.forall_mem_cons.mpr ⟨⟨s_iconst dJ6_bitCount_0f7a4_26 (by decide +kernel), s_mo_push _ _⟩, (List.forall_mem_cons.mpr ⟨⟨s_iushr dJ6_bitCount_0f7a4_27, s_mo_bin _ _⟩, (List.forall_mem_cons.mpr ⟨⟨s_iadd dJ6_bitCount_0f7a4_28, s_mo_bin _ _⟩, (List.forall_mem_cons.mpr ⟨⟨s_ldcw w_426 dJ6_bitCount_0f7a4_29, s_mo_push _ _⟩, (List.forall_mem_cons.mpr ⟨⟨s_iand dJ6_bitCount_0f7a4_32, s_mo_bin _ _⟩, (List.forall_mem_cons.mpr ⟨⟨s_stIn dJ6_bitCount_0f7a4_33 rfl, s_mo_stI _ _⟩, (List.forall_mem_cons.mpr ⟨⟨s_ldIn dJ6_bitCount_0f7a4_34 rfl, s_mo_ldI _ _⟩, (List.forall_mem_cons.mpr ⟨⟨s_ldIn dJ6_bitCount_0f7a4_35 rfl, s_mo_ldI _ _⟩, (List.forall_mem_cons.mpr ⟨⟨s_bipush dJ6_bitCount_0f7a4_36 (by decide +kernel), s_mo_push _ _⟩, (List.forall_mem_cons.mpr ⟨⟨s_iushr dJ6_bitCount_0f7a4_38, s_mo_bin _ _⟩, (List.forall_mem_cons.mpr ⟨⟨s_iadd dJ6_bitCount_0f7a4_39, s_mo_bin _ _⟩, (List.forall_mem_cons.mpr ⟨⟨s_stIn dJ6_bitCount_0f7a4_40 rfl, s_mo_stI _ _⟩, (List.forall_mem_cons.mpr ⟨⟨s_ldIn dJ6_bitCount_0f7a4_41 rfl, s_mo_ldI _ _⟩, (List.forall_mem_cons.mpr ⟨⟨s_ldIn dJ6_bitCount_0f7a4_42 rfl, s_mo_ldI _ _⟩, (List.forall_mem_cons.mpr ⟨⟨s_bipush dJ6_bitCount_0f7a4_43 (by decide +kernel), s_mo_push _ _⟩, (List.forall_mem_cons.mpr ⟨⟨s_iushr dJ6_bitCount_0f7a4_45, s_mo_bin _ _⟩, (List.forall_mem_cons.mpr ⟨⟨s_iadd dJ6_bitCount_0f7a4_46, s_mo_bin _ _⟩, (List.forall_mem_cons.mpr ⟨⟨s_stIn dJ6_bitCount_0f7a4_47 rfl, s_mo_stI _ _⟩, (List.forall_mem_cons.mpr ⟨⟨s_ldIn dJ6_bitCount_0f7a4_48 rfl, s_mo_ldI _ _⟩, (List.forall_mem_cons.mpr ⟨⟨s_bipush dJ6_bitCount_0f7a4_49 (by decide +kernel), s_mo_push _ _⟩, (List.forall_mem_cons.mpr ⟨⟨s_iand dJ6_bitCount_0f7a4_51, s_mo_bin _ _⟩, (List.forall_mem_cons.mpr ⟨s_r1 mk_254 dJ6_bitCount_0f7a4_52, (fun _ h => absurd h List.not_mem_nil)⟩)⟩)⟩)⟩)⟩)⟩)⟩)⟩)⟩)⟩)⟩)⟩)⟩)⟩)⟩)⟩)⟩)⟩)⟩)⟩)⟩)⟩)⟩)⟩)⟩)⟩)⟩)⟩)⟩)⟩)⟩)⟩)⟩)⟩)⟩)⟩)⟩)⟩)⟩)⟩)⟩)⟩)
theorem km_254 : ∀ t ∈ tm_254, s_tok 254 t := (List.forall_mem_cons.mpr ⟨s_lift mk_254 kb_254_0, (fun _ h => absurd h List.not_mem_nil)⟩)
theorem dJ0_length_8abf5_0 : decode cJ0_length_8abf5 0 = .ok (.aload_n 0, 1) := by decide +kernel
theorem dJ0_length_8abf5_1 : decode cJ0_length_8abf5 1 = .ok (.getfield 9, 3) := by decide +kernel
theorem dJ0_length_8abf5_4 : decode cJ0_length_8abf5 4 = .ok (.arraylength, 1) := by decide +kernel
theorem dJ0_length_8abf5_5 : decode cJ0_length_8abf5 5 = .ok (.aload_n 0, 1) := by decide +kernel
theorem dJ0_length_8abf5_6 : decode cJ0_length_8abf5 6 = .ok (.invokevirtual 335, 3) := by decide +kernel
theorem dJ0_length_8abf5_9 : decode cJ0_length_8abf5 9 = .ok (.ishr, 1) := by decide +kernel
theorem dJ0_length_8abf5_10 : decode cJ0_length_8abf5 10 = .ok (.ireturn, 1) := by decide +kernel
set_option maxRecDepth 20000 in
theorem kb_255_0 : ∀ q ∈ tb_255_0, s_atx 255 yJ0_length_8abf5 cJ0_length_8abf5 q.1 q.2 := (List.forall_mem_cons.mpr ⟨⟨s_ldAn dJ0_length_8abf5_0 rfl, s_mo_ldA _ _⟩, (List.forall_mem_cons.mpr ⟨⟨s_getO (k := 0) rfl w_1753 dJ0_length_8abf5_1, s_mo_getO _ _⟩, (List.forall_mem_cons.mpr ⟨⟨s_alenO dJ0_length_8abf5_4, s_mo_alenO _⟩, (List.forall_mem_cons.mpr ⟨⟨s_ldAn dJ0_length_8abf5_5 rfl, s_mo_ldA _ _⟩, (List.forall_mem_cons.mpr ⟨⟨s_sV mk_255 mk_257 ok_257 (by decide +kernel) dJ0_length_8abf5_6 w_523 w_524 w_525 (Or.inl ⟨rfl, rfl⟩), s_h0 mk_255⟩, (List.forall_mem_cons.mpr ⟨⟨s_ishr dJ0_length_8abf5_9, s_mo_bin _ _⟩, (List.forall_mem_cons.mpr ⟨s_r1 mk_255 dJ0_length_8abf5_10, (fun _ h => absurd h List.not_mem_nil)⟩)⟩)⟩)⟩)⟩)⟩)⟩)
theorem km_255 : ∀ t ∈ tm_255, s_tok 255 t := (List.forall_mem_cons.mpr ⟨s_lift mk_255 kb_255_0, (fun _ h => absurd h List.not_mem_nil)⟩)
theorem dJ0_charAt_5068e_0 : decode cJ0_charAt_5068e 0 = .ok (.aload_n 0, 1) := by decide +kernel
theorem dJ0_charAt_5068e_1 : decode cJ0_charAt_5068e 1 = .ok (.invokevirtual 492, 3) := by decide +kernel
theorem dJ0_charAt_5068e_4 : decode cJ0_charAt_5068e 4 = .ok (.ifCond .eq 12, 3) := by decide +kernel
theorem dJ0_charAt_5068e_7 : decode cJ0_charAt_5068e 7 = .ok (.aload_n 0, 1) := by decide +kernel
theorem dJ0_charAt_5068e_8 : decode cJ0_charAt_5068e 8 = .ok (.getfield 9, 3) := by decide +kernel
theorem dJ0_charAt_5068e_11 : decode cJ0_charAt_5068e 11 = .ok (.iload_n 1, 1) := by decide +kernel
theorem dJ0_charAt_5068e_12 : decode cJ0_charAt_5068e 12 = .ok (.invokestatic 495, 3) := by decide +kernel
theorem dJ0_charAt_5068e_15 : decode cJ0_charAt_5068e 15 = .ok (.ireturn, 1) := by decide +kernel
theorem dJ0_charAt_5068e_16 : decode cJ0_charAt_5068e 16 = .ok (.aload_n 0, 1) := by decide +kernel
theorem dJ0_charAt_5068e_17 : decode cJ0_charAt_5068e 17 = .ok (.getfield 9, 3) := by decide +kernel
theorem dJ0_charAt_5068e_20 : decode cJ0_charAt_5068e 20 = .ok (.iload_n 1, 1) := by decide +kernel
set_option maxRecDepth 20000 in
theorem kb_256_0 : ∀ q ∈ tb_256_0, s_atx 256 yJ0_charAt_5068e cJ0_charAt_5068e q.1 q.2 := (List.forall_mem_cons.mpr ⟨⟨s_ldAn dJ0_charAt_5068e_0 rfl, s_mo_ldA _ _⟩, (List.forall_mem_cons.mpr ⟨⟨s_sV mk_256 mk_258 ok_258 (by decide +kernel) dJ0_charAt_5068e_1 w_537 w_538 w_539 (Or.inl ⟨rfl, rfl⟩), s_h0 mk_256⟩, (List.forall_mem_cons.mpr ⟨⟨s_ifeq dJ0_charAt_5068e_4 (by decide), s_mo_ifeq _ _⟩, (List.forall_mem_cons.mpr ⟨⟨s_ldAn dJ0_charAt_5068e_7 rfl, s_mo_ldA _ _⟩, (List.forall_mem_cons.mpr ⟨⟨s_getO (k := 0) rfl w_1753 dJ0_charAt_5068e_8, s_mo_getO _ _⟩, (List.forall_mem_cons.mpr ⟨⟨s_ldIn dJ0_charAt_5068e_11 rfl, s_mo_ldI _ _⟩, (List.forall_mem_cons.mpr ⟨⟨s_sS mk_256 mk_260 ok_260 (by decide +kernel) dJ0_charAt_5068e_12 w_541 w_542, s_h0 mk_256⟩, (List.forall_mem_cons.mpr ⟨s_r6 mk_256 dJ0_charAt_5068e_15, (List.forall_mem_cons.mpr ⟨⟨s_ldAn dJ0_charAt_5068e_16 rfl, s_mo_ldA _ _⟩, (List.forall_mem_cons.mpr ⟨⟨s_getO (k := 0) rfl w_1753 dJ0_charAt_5068e_17, s_mo_getO _ _⟩, (List.forall_mem_cons.mpr ⟨⟨s_ldIn dJ0_charAt_5068e_20 rfl, s_mo_ldI _ _⟩, (fun _ h => absurd h List.not_mem_nil)⟩)⟩)⟩)⟩)⟩)⟩)⟩)⟩)⟩)⟩)⟩)
theorem km_256 : ∀ t ∈ tm_256, s_tok 256 t := (List.forall_mem_cons.mpr ⟨s_lift mk_256 kb_256_0, (fun _ h => absurd h List.not_mem_nil)⟩)
theorem dJ0_coder_7d493_0 : decode cJ0_coder_7d493 0 = .ok (.getstatic 38, 3) := by decide +kernel
theorem dJ0_coder_7d493_3 : decode cJ0_coder_7d493 3 = .ok (.ifCond .eq 10, 3) := by decide +kernel
theorem dJ0_coder_7d493_6 : decode cJ0_coder_7d493 6 = .ok (.aload_n 0, 1) := by decide +kernel
theorem dJ0_coder_7d493_7 : decode cJ0_coder_7d493 7 = .ok (.getfield 15, 3) := by decide +kernel
theorem dJ0_coder_7d493_10 : decode cJ0_coder_7d493 10 = .ok (.goto 4, 3) := by decide +kernel
theorem dJ0_coder_7d493_13 : decode cJ0_coder_7d493 13 = .ok (.iconst 1, 1) := by decide +kernel
theorem dJ0_coder_7d493_14 : decode cJ0_coder_7d493 14 = .ok (.ireturn, 1) := by decide +kernel
set_option maxRecDepth 20000 in
theorem kb_257_0 : ∀ q ∈ tb_257_0, s_atx 257 yJ0_coder_7d493 cJ0_coder_7d493 q.1 q.2 := (List.forall_mem_cons.mpr ⟨⟨s_gets (C0 := "java/lang/String") (n := "COMPACT_STRINGS") (d := "Z") (List.mem_of_getElem? (i := 1) rfl) w_527 dJ0_coder_7d493_0, s_mo_gst _ _⟩, (List.forall_mem_cons.mpr ⟨⟨s_ifeq dJ0_coder_7d493_3 (by decide), s_mo_ifeq _ _⟩, (List.forall_mem_cons.mpr ⟨⟨s_ldAn dJ0_coder_7d493_6 rfl, s_mo_ldA _ _⟩, (List.forall_mem_cons.mpr ⟨⟨s_getO (k := 1) rfl w_1754 dJ0_coder_7d493_7, s_mo_getO _ _⟩, (List.forall_mem_cons.mpr ⟨⟨s_goto dJ0_coder_7d493_10 (by decide), s_mo_goto _⟩, (List.forall_mem_cons.mpr ⟨⟨s_iconst dJ0_coder_7d493_13 (by decide +kernel), s_mo_push _ _⟩, (List.forall_mem_cons.mpr ⟨s_r5 mk_257 dJ0_coder_7d493_14, (fun _ h => absurd h List.not_mem_nil)⟩)⟩)⟩)⟩)⟩)⟩)⟩)
theorem km_257 : ∀ t ∈ tm_257, s_tok 257 t := (List.forall_mem_cons.mpr ⟨s_lift mk_257 kb_257_0, (fun _ h => absurd h List.not_mem_nil)⟩)
theorem dJ0_isLatin1_aae02_0 : decode cJ0_isLatin1_aae02 0 = .ok (.getstatic 38, 3) := by decide +kernel
theorem dJ0_isLatin1_aae02_3 : decode cJ0_isLatin1_aae02 3 = .ok (.ifCond .eq 14, 3) := by decide +kernel
theorem dJ0_isLatin1_aae02_6 : decode cJ0_isLatin1_aae02 6 = .ok (.aload_n 0, 1) := by decide +kernel
theorem dJ0_isLatin1_aae02_7 : decode cJ0_isLatin1_aae02 7 = .ok (.getfield 15, 3) := by decide +kernel
theorem dJ0_isLatin1_aae02_10 : decode cJ0_isLatin1_aae02 10 = .ok (.ifCond .ne 7, 3) := by decide +kernel
theorem dJ0_isLatin1_aae02_13 : decode cJ0_isLatin1_aae02 13 = .ok (.iconst 1, 1) := by decide +kernel
theorem dJ0_isLatin1_aae02_14 : decode cJ0_isLatin1_aae02 14 = .ok (.goto 4, 3) := by decide +kernel
theorem dJ0_isLatin1_aae02_17 : decode cJ0_isLatin1_aae02 17 = .ok (.iconst 0, 1) := by decide +kernel
theorem dJ0_isLatin1_aae02_18 : decode cJ0_isLatin1_aae02 18 = .ok (.ireturn, 1) := by decide +kernel
set_option maxRecDepth 20000 in
theorem kb_258_0 : ∀ q ∈ tb_258_0, s_atx 258 yJ0_isLatin1_aae02 cJ0_isLatin1_aae02 q.1 q.2 := (List.forall_mem_cons.mpr ⟨⟨s_gets (C0 := "java/lang/String") (n := "COMPACT_STRINGS") (d := "Z") (List.mem_of_getElem? (i := 1) rfl) w_527 dJ0_isLatin1_aae02_0, s_mo_gst _ _⟩, (List.forall_mem_cons.mpr ⟨⟨s_ifeq dJ0_isLatin1_aae02_3 (by decide), s_mo_ifeq _ _⟩, (List.forall_mem_cons.mpr ⟨⟨s_ldAn dJ0_isLatin1_aae02_6 rfl, s_mo_ldA _ _⟩, (List.forall_mem_cons.mpr ⟨⟨s_getO (k := 1) rfl w_1754 dJ0_isLatin1_aae02_7, s_mo_getO _ _⟩, (List.forall_mem_cons.mpr ⟨⟨s_ifne dJ0_isLatin1_aae02_10 (by decide), s_mo_ifne _ _⟩, (List.forall_mem_cons.mpr ⟨⟨s_iconst dJ0_isLatin1_aae02_13 (by decide +kernel), s_mo_push _ _⟩, (List.forall_mem_cons.mpr ⟨⟨s_goto dJ0_isLatin1_aae02_14 (by decide), s_mo_goto _⟩, (List.forall_mem_cons.mpr ⟨⟨s_iconst dJ0_isLatin1_aae02_17 (by decide +kernel), s_mo_push _ _⟩, (List.forall_mem_cons.mpr ⟨s_r2 mk_258 dJ0_isLatin1_aae02_18, (fun _ h => absurd h List.not_mem_nil)⟩)⟩)⟩)⟩)⟩)⟩)⟩)⟩)⟩)
theorem km_258 : ∀ t ∈ tm_258, s_tok 258 t := (List.forall_mem_cons.mpr ⟨s_lift mk_258 kb_258_0, (fun _ h => absurd h List.not_mem_nil)⟩)
theorem dJ0_checkIndex_df160_0 : decode cJ0_checkIndex_df160 0 = .ok (.iload_n 0, 1) := by decide +kernel
theorem dJ0_checkIndex_df160_1 : decode cJ0_checkIndex_df160 1 = .ok (.iload_n 1, 1) := by decide +kernel
theorem dJ0_checkIndex_df160_2 : decode cJ0_checkIndex_df160 2 = .ok (.getstatic 1053, 3) := by decide +kernel
theorem dJ0_checkIndex_df160_5 : decode cJ0_checkIndex_df160 5 = .ok (.invokestatic 1059, 3) := by decide +kernel
theorem dJ0_checkIndex_df160_8 : decode cJ0_checkIndex_df160 8 = .ok (.pop, 1) := by decide +kernel
theorem dJ0_checkIndex_df160_9 : decode cJ0_checkIndex_df160 9 = .ok (.return_, 1) := by decide +kernel
set_option maxRecDepth 20000 in
theorem kb_259_0 : ∀ q ∈ tb_259_0, s_atx 259 yJ0_checkIndex_df160 cJ0_checkIndex_df160 q.1 q.2 := (List.forall_mem_cons.mpr ⟨⟨s_ldIn dJ0_checkIndex_df160_0 rfl, s_mo_ldI _ _⟩, (List.forall_mem_cons.mpr ⟨⟨s_ldIn dJ0_checkIndex_df160_1 rfl, s_mo_ldI _ _⟩, (List.forall_mem_cons.mpr ⟨⟨s_gets (C0 := "jdk/internal/util/Preconditions") (n := "SIOOBE_FORMATTER") (d := "Ljava/util/function/BiFunction;") (List.mem_of_getElem? (i := 2) rfl) w_547 dJ0_checkIndex_df160_2, s_mo_gst _ _⟩, (List.forall_mem_cons.mpr ⟨⟨s_sS mk_259 mk_263 ok_263 (by decide +kernel) dJ0_checkIndex_df160_5 w_549 w_550, s_h0 mk_259⟩, (List.forall_mem_cons.mpr ⟨⟨s_pop dJ0_checkIndex_df160_8, s_mo_pop _⟩, (List.forall_mem_cons.mpr ⟨s_r0 mk_259 dJ0_checkIndex_df160_9, (fun _ h => absurd h List.not_mem_nil)⟩)⟩)⟩)⟩)⟩)⟩)
theorem km_259 : ∀ t ∈ tm_259, s_tok 259 t := (List.forall_mem_cons.mpr ⟨s_lift mk_259 kb_259_0, (fun _ h => absurd h List.not_mem_nil)⟩)
theorem dJ1_charAt_3b067_0 : decode cJ1_charAt_3b067 0 = .ok (.iload_n 1, 1) := by decide +kernel
theorem dJ1_charAt_3b067_1 : decode cJ1_charAt_3b067 1 = .ok (.aload_n 0, 1) := by decide +kernel
theorem dJ1_charAt_3b067_2 : decode cJ1_charAt_3b067 2 = .ok (.arraylength, 1) := by decide +kernel
theorem dJ1_charAt_3b067_3 : decode cJ1_charAt_3b067 3 = .ok (.invokestatic 9, 3) := by decide +kernel
theorem dJ1_charAt_3b067_6 : decode cJ1_charAt_3b067 6 = .ok (.aload_n 0, 1) := by decide +kernel
theorem dJ1_charAt_3b067_7 : decode cJ1_charAt_3b067 7 = .ok (.iload_n 1, 1) := by decide +kernel
theorem dJ1_charAt_3b067_8 : decode cJ1_charAt_3b067 8 = .ok (.baload, 1) := by decide +kernel
theorem dJ1_charAt_3b067_9 : decode cJ1_charAt_3b067 9 = .ok (.sipush 255, 3) := by decide +kernel
theorem dJ1_charAt_3b067_12 : decode cJ1_charAt_3b067 12 = .ok (.iand, 1) := by decide +kernel
theorem dJ1_charAt_3b067_13 : decode cJ1_charAt_3b067 13 = .ok (.i2c, 1) := by decide +kernel
theorem dJ1_charAt_3b067_14 : decode cJ1_charAt_3b067 14 = .ok (.ireturn, 1) := by decide +kernel
set_option maxRecDepth 20000 in
theorem kb_260_0 : ∀ q ∈ tb_260_0, s_atx 260 yJ1_charAt_3b067 cJ1_charAt_3b067 q.1 q.2 := (List.forall_mem_cons.mpr ⟨⟨s_ldIn dJ1_charAt_3b067_0 rfl, s_mo_ldI _ _⟩, (List.forall_mem_cons.mpr ⟨⟨s_ldAn dJ1_charAt_3b067_1 rfl, s_mo_ldA _ _⟩, (List.forall_mem_cons.mpr ⟨⟨s_alenO dJ1_charAt_3b067_2, s_mo_alenO _⟩, (List.forall_mem_cons.mpr ⟨⟨s_sS mk_260 mk_259 ok_259 (by decide +kernel) dJ1_charAt_3b067_3 w_544 w_545, s_h0 mk_260⟩, (List.forall_mem_cons.mpr ⟨⟨s_ldAn dJ1_charAt_3b067_6 rfl, s_mo_ldA _ _⟩, (List.forall_mem_cons.mpr ⟨⟨s_ldIn dJ1_charAt_3b067_7 rfl, s_mo_ldI _ _⟩, (List.forall_mem_cons.mpr ⟨⟨s_baldO dJ1_charAt_3b067_8, s_mo_baldO _⟩, (List.forall_mem_cons.mpr ⟨⟨s_sipush dJ1_charAt_3b067_9 (by decide +kernel), s_mo_push _ _⟩, (List.forall_mem_cons.mpr ⟨⟨s_iand dJ1_charAt_3b067_12, s_mo_bin _ _⟩, (List.forall_mem_cons.mpr ⟨⟨s_i2c dJ1_charAt_3b067_13, s_mo_un _ _⟩, (List.forall_mem_cons.mpr ⟨s_r6 mk_260 dJ1_charAt_3b067_14, (fun _ h => absurd h List.not_mem_nil)⟩)⟩)⟩)⟩)⟩)⟩)⟩)⟩)⟩)⟩)⟩)
theorem km_260 : ∀ t ∈ tm_260, s_tok 260 t := (List.forall_mem_cons.mpr ⟨s_lift mk_260 kb_260_0, (fun _ h => absurd h List.not_mem_nil)⟩)
theorem dJ7_fill_d0a16_0 : decode cJ7_fill_d0a16 0 = .ok (.iconst 0, 1) := by decide +kernel
theorem dJ7_fill_d0a16_1 : decode cJ7_fill_d0a16 1 = .ok (.istore_n 3, 1) := by decide +kernel
theorem dJ7_fill_d0a16_2 : decode cJ7_fill_d0a16 2 = .ok (.aload_n 0, 1) := by decide +kernel
theorem dJ7_fill_d0a16_3 : decode cJ7_fill_d0a16 3 = .ok (.arraylength, 1) := by decide +kernel
theorem dJ7_fill_d0a16_4 : decode cJ7_fill_d0a16 4 = .ok (.istore 4, 2) := by decide +kernel
theorem dJ7_fill_d0a16_6 : decode cJ7_fill_d0a16 6 = .ok (.iload_n 3, 1) := by decide +kernel
theorem dJ7_fill_d0a16_7 : decode cJ7_fill_d0a16 7 = .ok (.iload 4, 2) := by decide +kernel
theorem dJ7_fill_d0a16_9 : decode cJ7_fill_d0a16 9 = .ok (.if_icmp .ge 13, 3) := by decide +kernel
theorem dJ7_fill_d0a16_12 : decode cJ7_fill_d0a16 12 = .ok (.aload_n 0, 1) := by decide +kernel
theorem dJ7_fill_d0a16_13 : decode cJ7_fill_d0a16 13 = .ok (.iload_n 3, 1) := by decide +kernel
theorem dJ7_fill_d0a16_14 : decode cJ7_fill_d0a16 14 = .ok (.lload_n 1, 1) := by decide +kernel
theorem dJ7_fill_d0a16_15 : decode cJ7_fill_d0a16 15 = .ok (.lastore, 1) := by decide +kernel
theorem dJ7_fill_d0a16_16 : decode cJ7_fill_d0a16 16 = .ok (.iinc 3 1, 3) := by decide +kernel
theorem dJ7_fill_d0a16_19 : decode cJ7_fill_d0a16 19 = .ok (.goto (-13), 3) := by decide +kernel
theorem dJ7_fill_d0a16_22 : decode cJ7_fill_d0a16 22 = .ok (.return_, 1) := by decide +kernel
set_option maxRecDepth 20000 in
theorem kb_261_0 : ∀ q ∈ tb_261_0, s_atx 261 yJ7_fill_d0a16 cJ7_fill_d0a16 q.1 q.2 := (List.forall_mem_cons.mpr ⟨⟨s_iconst dJ7_fill_d0a16_0 (by decide +kernel), s_mo_push _ _⟩, (List.forall_mem_cons.mpr ⟨⟨s_stIn dJ7_fill_d0a16_1 rfl, s_mo_stI _ _⟩, (List.forall_mem_cons.mpr ⟨⟨s_ldAn dJ7_fill_d0a16_2 rfl, s_mo_ldA _ _⟩, (List.forall_mem_cons.mpr ⟨⟨s_alen dJ7_fill_d0a16_3, s_mo_alen _⟩, (List.forall_mem_cons.mpr ⟨⟨s_stI dJ7_fill_d0a16_4, s_mo_stI _ _⟩, (List.forall_mem_cons.mpr ⟨⟨s_ldIn dJ7_fill_d0a16_6 rfl, s_mo_ldI _ _⟩, (List.forall_mem_cons.mpr ⟨⟨s_ldI dJ7_fill_d0a16_7, s_mo_ldI _ _⟩, (List.forall_mem_cons.mpr ⟨⟨s_icge dJ7_fill_d0a16_9 (by decide), s_mo_icge _ _⟩, (List.forall_mem_cons.mpr ⟨⟨s_ldAn dJ7_fill_d0a16_12 rfl, s_mo_ldA _ _⟩, (List.forall_mem_cons.mpr ⟨⟨s_ldIn dJ7_fill_d0a16_13 rfl, s_mo_ldI _ _⟩, (List.forall_mem_cons.mpr ⟨⟨s_ldLn dJ7_fill_d0a16_14 rfl, s_mo_ldL _ _⟩, (List.forall_mem_cons.mpr ⟨⟨s_last dJ7_fill_d0a16_15, s_mo_last _⟩, (List.forall_mem_cons.mpr ⟨⟨s_inc dJ7_fill_d0a16_16 (by decide +kernel), s_mo_inc _ _ _⟩, (List.forall_mem_cons.mpr ⟨⟨s_goto dJ7_fill_d0a16_19 (by decide), s_mo_goto _⟩, (List.forall_mem_cons.mpr ⟨s_r0 mk_261 dJ7_fill_d0a16_22, (fun _ h => absurd h List.not_mem_nil)⟩)⟩)⟩)⟩)⟩)⟩)⟩)⟩)⟩)⟩)⟩)⟩)⟩)⟩)⟩)
theorem km_261 : ∀ t ∈ tm_261, s_tok 261 t := (List.forall_mem_cons.mpr ⟨s_lift mk_261 kb_261_0, (fun _ h => absurd h List.not_mem_nil)⟩)
theorem dJ7_fill_53178_0 : decode cJ7_fill_53178 0 = .ok (.iconst 0, 1) := by decide +kernel
theorem dJ7_fill_53178_1 : decode cJ7_fill_53178 1 = .ok (.istore_n 2, 1) := by decide +kernel
theorem dJ7_fill_53178_2 : decode cJ7_fill_53178 2 = .ok (.aload_n 0, 1) := by decide +kernel
theorem dJ7_fill_53178_3 : decode cJ7_fill_53178 3 = .ok (.arraylength, 1) := by decide +kernel
theorem dJ7_fill_53178_4 : decode cJ7_fill_53178 4 = .ok (.istore_n 3, 1) := by decide +kernel
theorem dJ7_fill_53178_5 : decode cJ7_fill_53178 5 = .ok (.iload_n 2, 1) := by decide +kernel
theorem dJ7_fill_53178_6 : decode cJ7_fill_53178 6 = .ok (.iload_n 3, 1) := by decide +kernel
theorem dJ7_fill_53178_7 : decode cJ7_fill_53178 7 = .ok (.if_icmp .ge 13, 3) := by decide +kernel
theorem dJ7_fill_53178_10 : decode cJ7_fill_53178 10 = .ok (.aload_n 0, 1) := by decide +kernel
theorem dJ7_fill_53178_11 : decode cJ7_fill_53178 11 = .ok (.iload_n 2, 1) := by decide +kernel
theorem dJ7_fill_53178_12 : decode cJ7_fill_53178 12 = .ok (.iload_n 1, 1) := by decide +kernel
theorem dJ7_fill_53178_13 : decode cJ7_fill_53178 13 = .ok (.iastore, 1) := by decide +kernel
theorem dJ7_fill_53178_14 : decode cJ7_fill_53178 14 = .ok (.iinc 2 1, 3) := by decide +kernel
theorem dJ7_fill_53178_17 : decode cJ7_fill_53178 17 = .ok (.goto (-12), 3) := by decide +kernel
theorem dJ7_fill_53178_20 : decode cJ7_fill_53178 20 = .ok (.return_, 1) := by decide +kernel
set_option maxRecDepth 20000 in
theorem kb_262_0 : ∀ q ∈ tb_262_0, s_atx 262 yJ7_fill_53178 cJ7_fill_53178 q.1 q.2 := (List.forall_mem_cons.mpr ⟨⟨s_iconst dJ7_fill_53178_0 (by decide +kernel), s_mo_push _ _⟩, (List.forall_mem_cons.mpr ⟨⟨s_stIn dJ7_fill_53178_1 rfl, s_mo_stI _ _⟩, (List.forall_mem_cons.mpr ⟨⟨s_ldAn dJ7_fill_53178_2 rfl, s_mo_ldA _ _⟩, (List.forall_mem_cons.mpr ⟨⟨s_alen dJ7_fill_53178_3, s_mo_alen _⟩, (List.forall_mem_cons.mpr ⟨⟨s_stIn dJ7_fill_53178_4 rfl, s_mo_stI _ _⟩, (List.forall_mem_cons.mpr ⟨⟨s_ldIn dJ7_fill_53178_5 rfl, s_mo_ldI _ _⟩, (List.forall_mem_cons.mpr ⟨⟨s_ldIn dJ7_fill_53178_6 rfl, s_mo_ldI _ _⟩, (List.forall_mem_cons.mpr ⟨⟨s_icge dJ7_fill_53178_7 (by decide), s_mo_icge _ _⟩, (List.forall_mem_cons.mpr ⟨⟨s_ldAn dJ7_fill_53178_10 rfl, s_mo_ldA _ _⟩, (List.forall_mem_cons.mpr ⟨⟨s_ldIn dJ7_fill_53178_11 rfl, s_mo_ldI _ _⟩, (List.forall_mem_cons.mpr ⟨⟨s_ldIn dJ7_fill_53178_12 rfl, s_mo_ldI _ _⟩, (List.forall_mem_cons.mpr ⟨⟨s_iast dJ7_fill_53178_13, s_mo_iast _⟩, (List.forall_mem_cons.mpr ⟨⟨s_inc dJ7_fill_53178_14 (by decide +kernel), s_mo_inc _ _ _⟩, (List.forall_mem_cons.mpr ⟨⟨s_goto dJ7_fill_53178_17 (by decide), s_mo_goto _⟩, (List.forall_mem_cons.mpr ⟨s_r0 mk_262 dJ7_fill_53178_20, (fun _ h => absurd h List.not_mem_nil)⟩)⟩)⟩)⟩)⟩)⟩)⟩)⟩)⟩)⟩)⟩)⟩)⟩)⟩)⟩)
theorem km_262 : ∀ t ∈ tm_262, s_tok 262 t := (List.forall_mem_cons.mpr ⟨s_lift mk_262 kb_262_0, (fun _ h => absurd h List.not_mem_nil)⟩)
theorem dJ3_checkIndex_8e157_0 : decode cJ3_checkIndex_8e157 0 = .ok (.iload_n 0, 1) := by decide +kernel
theorem dJ3_checkIndex_8e157_1 : decode cJ3_checkIndex_8e157 1 = .ok (.ifCond .lt 8, 3) := by decide +kernel
theorem dJ3_checkIndex_8e157_4 : decode cJ3_checkIndex_8e157 4 = .ok (.iload_n 0, 1) := by decide +kernel
theorem dJ3_checkIndex_8e157_5 : decode cJ3_checkIndex_8e157 5 = .ok (.iload_n 1, 1) := by decide +kernel
theorem dJ3_checkIndex_8e157_6 : decode cJ3_checkIndex_8e157 6 = .ok (.if_icmp .lt 10, 3) := by decide +kernel
theorem dJ3_checkIndex_8e157_9 : decode cJ3_checkIndex_8e157 9 = .ok (.aload_n 2, 1) := by decide +kernel
theorem dJ3_checkIndex_8e157_10 : decode cJ3_checkIndex_8e157 10 = .ok (.iload_n 0, 1) := by decide +kernel
theorem dJ3_checkIndex_8e157_11 : decode cJ3_checkIndex_8e157 11 = .ok (.iload_n 1, 1) := by decide +kernel
theorem dJ3_checkIndex_8e157_16 : decode cJ3_checkIndex_8e157 16 = .ok (.iload_n 0, 1) := by decide +kernel
theorem dJ3_checkIndex_8e157_17 : decode cJ3_checkIndex_8e157 17 = .ok (.ireturn, 1) := by decide +kernel
set_option maxRecDepth 20000 in
theorem kb_263_0 : ∀ q ∈ tb_263_0, s_atx 263 yJ3_checkIndex_8e157 cJ3_checkIndex_8e157 q.1 q.2 := (List.forall_mem_cons.mpr ⟨⟨s_ldIn dJ3_checkIndex_8e157_0 rfl, s_mo_ldI _ _⟩, (List.forall_mem_cons.mpr ⟨⟨s_iflt dJ3_checkIndex_8e157_1 (by decide), s_mo_iflt _ _⟩, (List.forall_mem_cons.mpr ⟨⟨s_ldIn dJ3_checkIndex_8e157_4 rfl, s_mo_ldI _ _⟩, (List.forall_mem_cons.mpr ⟨⟨s_ldIn dJ3_checkIndex_8e157_5 rfl, s_mo_ldI _ _⟩, (List.forall_mem_cons.mpr ⟨⟨s_iclt dJ3_checkIndex_8e157_6 (by decide), s_mo_iclt _ _⟩, (List.forall_mem_cons.mpr ⟨⟨s_ldAn dJ3_checkIndex_8e157_9 rfl, s_mo_ldA _ _⟩, (List.forall_mem_cons.mpr ⟨⟨s_ldIn dJ3_checkIndex_8e157_10 rfl, s_mo_ldI _ _⟩, (List.forall_mem_cons.mpr ⟨⟨s_ldIn dJ3_checkIndex_8e157_11 rfl, s_mo_ldI _ _⟩, (List.forall_mem_cons.mpr ⟨⟨s_ldIn dJ3_checkIndex_8e157_16 rfl, s_mo_ldI _ _⟩, (List.forall_mem_cons.mpr ⟨s_r1 mk_263 dJ3_checkIndex_8e157_17, (fun _ h => absurd h List.not_mem_nil)⟩)⟩)⟩)⟩)⟩)⟩)⟩)⟩)⟩)⟩)
theorem km_263 : ∀ t ∈ tm_263, s_tok 263 t := (List.forall_mem_cons.mpr ⟨s_lift mk_263 kb_263_0, (fun _ h => absurd h List.not_mem_nil)⟩)
theorem dL_city_0 : decode cL_city 0 = .ok (.aload_n 1, 1) := by decide +kernel
theorem dL_city_1 : decode cL_city 1 = .ok (.iconst 0, 1) := by decide +kernel
theorem dL_city_2 : decode cL_city 2 = .ok (.aload_n 0, 1) := by decide +kernel
theorem dL_city_3 : decode cL_city 3 = .ok (.invokevirtual 7, 3) := by decide +kernel
theorem dL_city_6 : decode cL_city 6 = .ok (.i2l, 1) := by decide +kernel
theorem dL_city_7 : decode cL_city 7 = .ok (.lastore, 1) := by decide +kernel
theorem dL_city_8 : decode cL_city 8 = .ok (.goto 9, 3) := by decide +kernel
theorem dL_city_11 : decode cL_city 11 = .ok (.astore_n 2, 1) := by decide +kernel
theorem dL_city_12 : decode cL_city 12 = .ok (.iconst 1, 1) := by decide +kernel
theorem dL_city_13 : decode cL_city 13 = .ok (.ireturn, 1) := by decide +kernel
theorem dL_city_14 : decode cL_city 14 = .ok (.astore_n 2, 1) := by decide +kernel
theorem dL_city_15 : decode cL_city 15 = .ok (.iconst 2, 1) := by decide +kernel
theorem dL_city_16 : decode cL_city 16 = .ok (.ireturn, 1) := by decide +kernel
theorem dL_city_17 : decode cL_city 17 = .ok (.iconst 0, 1) := by decide +kernel
theorem dL_city_18 : decode cL_city 18 = .ok (.ireturn, 1) := by decide +kernel
set_option maxRecDepth 20000 in
theorem kb_264_0 : ∀ q ∈ tb_264_0, s_atx 264 yL_city cL_city q.1 q.2 := (List.forall_mem_cons.mpr ⟨⟨s_ldAn dL_city_0 rfl, s_mo_ldA _ _⟩, (List.forall_mem_cons.mpr ⟨⟨s_iconst dL_city_1 (by decide +kernel), s_mo_push _ _⟩, (List.forall_mem_cons.mpr ⟨⟨s_ldAn dL_city_2 rfl, s_mo_ldA _ _⟩, (List.forall_mem_cons.mpr ⟨⟨s_sV mk_264 mk_104 ok_104 (by decide +kernel) dL_city_3 w_492 w_493 w_494 (Or.inr ⟨7, _, _, rfl, rfl⟩), s_h2 mk_264 (by decide) rfl rfl (by decide) (by decide) w_490 w_491 (by decide +kernel) (by decide +kernel) (by decide +kernel) (Or.inl ⟨2, dL_city_11, rfl, rfl⟩) (Or.inl ⟨2, dL_city_14, rfl, rfl⟩)⟩, (List.forall_mem_cons.mpr ⟨⟨s_i2l dL_city_6, s_mo_i2l _⟩, (List.forall_mem_cons.mpr ⟨⟨s_last dL_city_7, s_mo_last _⟩, (List.forall_mem_cons.mpr ⟨⟨s_goto dL_city_8 (by decide), s_mo_goto _⟩, (List.forall_mem_cons.mpr ⟨⟨s_iconst dL_city_12 (by decide +kernel), s_mo_push _ _⟩, (List.forall_mem_cons.mpr ⟨s_r1 mk_264 dL_city_13, (List.forall_mem_cons.mpr ⟨⟨s_iconst dL_city_15 (by decide +kernel), s_mo_push _ _⟩, (List.forall_mem_cons.mpr ⟨s_r1 mk_264 dL_city_16, (List.forall_mem_cons.mpr ⟨⟨s_iconst dL_city_17 (by decide +kernel), s_mo_push _ _⟩, (List.forall_mem_cons.mpr ⟨s_r1 mk_264 dL_city_18, (fun _ h => absurd h List.not_mem_nil)⟩)⟩)⟩)⟩)⟩)⟩)⟩)⟩)⟩)⟩)⟩)⟩)⟩)
theorem km_264 : ∀ t ∈ tm_264, s_tok 264 t := (List.forall_mem_cons.mpr ⟨s_lift mk_264 kb_264_0, (fun _ h => absurd h List.not_mem_nil)⟩)
theorem dL_shame_0 : decode cL_shame 0 = .ok (.aload_n 1, 1) := by decide +kernel
theorem dL_shame_1 : decode cL_shame 1 = .ok (.iconst 0, 1) := by decide +kernel
theorem dL_shame_2 : decode cL_shame 2 = .ok (.aload_n 0, 1) := by decide +kernel
theorem dL_shame_3 : decode cL_shame 3 = .ok (.invokevirtual 17, 3) := by decide +kernel
theorem dL_shame_6 : decode cL_shame 6 = .ok (.i2l, 1) := by decide +kernel
theorem dL_shame_7 : decode cL_shame 7 = .ok (.lastore, 1) := by decide +kernel
theorem dL_shame_8 : decode cL_shame 8 = .ok (.goto 6, 3) := by decide +kernel
theorem dL_shame_11 : decode cL_shame 11 = .ok (.astore_n 2, 1) := by decide +kernel
theorem dL_shame_12 : decode cL_shame 12 = .ok (.iconst 1, 1) := by decide +kernel
theorem dL_shame_13 : decode cL_shame 13 = .ok (.ireturn, 1) := by decide +kernel
theorem dL_shame_14 : decode cL_shame 14 = .ok (.iconst 0, 1) := by decide +kernel
theorem dL_shame_15 : decode cL_shame 15 = .ok (.ireturn, 1) := by decide +kernel
set_option maxRecDepth 20000 in
theorem kb_265_0 : ∀ q ∈ tb_265_0, s_atx 265 yL_shame cL_shame q.1 q.2 := (List.forall_mem_cons.mpr ⟨⟨s_ldAn dL_shame_0 rfl, s_mo_ldA _ _⟩, (List.forall_mem_cons.mpr ⟨⟨s_iconst dL_shame_1 (by decide +kernel), s_mo_push _ _⟩, (List.forall_mem_cons.mpr ⟨⟨s_ldAn dL_shame_2 rfl, s_mo_ldA _ _⟩, (List.forall_mem_cons.mpr ⟨⟨s_sV mk_265 mk_105 ok_105 (by decide +kernel) dL_shame_3 w_702 w_703 w_704 (Or.inr ⟨7, _, _, rfl, rfl⟩), s_h1 mk_265 rfl (by decide) w_490 (by decide +kernel) (Or.inl ⟨2, dL_shame_11, rfl, rfl⟩)⟩, (List.forall_mem_cons.mpr ⟨⟨s_i2l dL_shame_6, s_mo_i2l _⟩, (List.forall_mem_cons.mpr ⟨⟨s_last dL_shame_7, s_mo_last _⟩, (List.forall_mem_cons.mpr ⟨⟨s_goto dL_shame_8 (by decide), s_mo_goto _⟩, (List.forall_mem_cons.mpr ⟨⟨s_iconst dL_shame_12 (by decide +kernel), s_mo_push _ _⟩, (List.forall_mem_cons.mpr ⟨s_r1 mk_265 dL_shame_13, (List.forall_mem_cons.mpr ⟨⟨s_iconst dL_shame_14 (by decide +kernel), s_mo_push _ _⟩, (List.forall_mem_cons.mpr ⟨s_r1 mk_265 dL_shame_15, (fun _ h => absurd h List.not_mem_nil)⟩)⟩)⟩)⟩)⟩)⟩)⟩)⟩)⟩)⟩)⟩)
theorem km_265 : ∀ t ∈ tm_265, s_tok 265 t := (List.forall_mem_cons.mpr ⟨s_lift mk_265 kb_265_0, (fun _ h => absurd h List.not_mem_nil)⟩)
theorem dL_pane_0 : decode cL_pane 0 = .ok (.aload_n 3, 1) := by decide +kernel
theorem dL_pane_1 : decode cL_pane 1 = .ok (.iconst 0, 1) := by decide +kernel
theorem dL_pane_2 : decode cL_pane 2 = .ok (.aload_n 0, 1) := by decide +kernel
theorem dL_pane_3 : decode cL_pane 3 = .ok (.iload_n 1, 1) := by decide +kernel
theorem dL_pane_4 : decode cL_pane 4 = .ok (.iload_n 2, 1) := by decide +kernel
theorem dL_pane_5 : decode cL_pane 5 = .ok (.invokevirtual 20, 3) := by decide +kernel
theorem dL_pane_8 : decode cL_pane 8 = .ok (.i2l, 1) := by decide +kernel
theorem dL_pane_9 : decode cL_pane 9 = .ok (.lastore, 1) := by decide +kernel
theorem dL_pane_10 : decode cL_pane 10 = .ok (.goto 11, 3) := by decide +kernel
theorem dL_pane_13 : decode cL_pane 13 = .ok (.astore 4, 2) := by decide +kernel
theorem dL_pane_15 : decode cL_pane 15 = .ok (.iconst 1, 1) := by decide +kernel
theorem dL_pane_16 : decode cL_pane 16 = .ok (.ireturn, 1) := by decide +kernel
theorem dL_pane_17 : decode cL_pane 17 = .ok (.astore 4, 2) := by decide +kernel
theorem dL_pane_19 : decode cL_pane 19 = .ok (.iconst 2, 1) := by decide +kernel
theorem dL_pane_20 : decode cL_pane 20 = .ok (.ireturn, 1) := by decide +kernel
theorem dL_pane_21 : decode cL_pane 21 = .ok (.iconst 0, 1) := by decide +kernel
theorem dL_pane_22 : decode cL_pane 22 = .ok (.ireturn, 1) := by decide +kernel
set_option maxRecDepth 20000 in
theorem kb_266_0 : ∀ q ∈ tb_266_0, s_atx 266 yL_pane cL_pane q.1 q.2 := (List.forall_mem_cons.mpr ⟨⟨s_ldAn dL_pane_0 rfl, s_mo_ldA _ _⟩, (List.forall_mem_cons.mpr ⟨⟨s_iconst dL_pane_1 (by decide +kernel), s_mo_push _ _⟩, (List.forall_mem_cons.mpr ⟨⟨s_ldAn dL_pane_2 rfl, s_mo_ldA _ _⟩, (List.forall_mem_cons.mpr ⟨⟨s_ldIn dL_pane_3 rfl, s_mo_ldI _ _⟩, (List.forall_mem_cons.mpr ⟨⟨s_ldIn dL_pane_4 rfl, s_mo_ldI _ _⟩, (List.forall_mem_cons.mpr ⟨⟨s_sV mk_266 mk_107 ok_107 (by decide +kernel) dL_pane_5 w_758 w_759 w_760 (Or.inr ⟨7, _, _, rfl, rfl⟩), s_h2 mk_266 (by decide) rfl rfl (by decide) (by decide) w_756 w_757 (by decide +kernel) (by decide +kernel) (by decide +kernel) (Or.inr ⟨dL_pane_13, rfl⟩) (Or.inr ⟨dL_pane_17, rfl⟩)⟩, (List.forall_mem_cons.mpr ⟨⟨s_i2l dL_pane_8, s_mo_i2l _⟩, (List.forall_mem_cons.mpr ⟨⟨s_last dL_pane_9, s_mo_last _⟩, (List.forall_mem_cons.mpr ⟨⟨s_goto dL_pane_10 (by decide), s_mo_goto _⟩, (List.forall_mem_cons.mpr ⟨⟨s_iconst dL_pane_15 (by decide +kernel), s_mo_push _ _⟩, (List.forall_mem_cons.mpr ⟨s_r1 mk_266 dL_pane_16, (List.forall_mem_cons.mpr ⟨⟨s_iconst dL_pane_19 (by decide +kernel), s_mo_push _ _⟩, (List.forall_mem_cons.mpr ⟨s_r1 mk_266 dL_pane_20, (List.forall_mem_cons.mpr ⟨⟨s_iconst dL_pane_21 (by decide +kernel), s_mo_push _ _⟩, (List.forall_mem_cons.mpr ⟨s_r1 mk_266 dL_pane_22, (fun _ h => absurd h List.not_mem_nil)⟩)⟩)⟩)⟩)⟩)⟩)⟩)⟩)⟩)⟩)⟩)⟩)⟩)⟩)⟩)
theorem km_266 : ∀ t ∈ tm_266, s_tok 266 t := (List.forall_mem_cons.mpr ⟨s_lift mk_266 kb_266_0, (fun _ h => absurd h List.not_mem_nil)⟩)
theorem dL_cart_0 : decode cL_cart 0 = .ok (.aload_n 3, 1) := by decide +kernel
theorem dL_cart_1 : decode cL_cart 1 = .ok (.iconst 0, 1) := by decide +kernel
theorem dL_cart_2 : decode cL_cart 2 = .ok (.aload_n 0, 1) := by decide +kernel
theorem dL_cart_3 : decode cL_cart 3 = .ok (.iload_n 1, 1) := by decide +kernel
theorem dL_cart_4 : decode cL_cart 4 = .ok (.iload_n 2, 1) := by decide +kernel
theorem dL_cart_5 : decode cL_cart 5 = .ok (.invokevirtual 28, 3) := by decide +kernel
theorem dL_cart_8 : decode cL_cart 8 = .ok (.i2l, 1) := by decide +kernel
theorem dL_cart_9 : decode cL_cart 9 = .ok (.lastore, 1) := by decide +kernel
theorem dL_cart_10 : decode cL_cart 10 = .ok (.goto 11, 3) := by decide +kernel
theorem dL_cart_13 : decode cL_cart 13 = .ok (.astore 4, 2) := by decide +kernel
theorem dL_cart_15 : decode cL_cart 15 = .ok (.iconst 1, 1) := by decide +kernel
theorem dL_cart_16 : decode cL_cart 16 = .ok (.ireturn, 1) := by decide +kernel
theorem dL_cart_17 : decode cL_cart 17 = .ok (.astore 4, 2) := by decide +kernel
theorem dL_cart_19 : decode cL_cart 19 = .ok (.iconst 2, 1) := by decide +kernel
theorem dL_cart_20 : decode cL_cart 20 = .ok (.ireturn, 1) := by decide +kernel
theorem dL_cart_21 : decode cL_cart 21 = .ok (.iconst 0, 1) := by decide +kernel
theorem dL_cart_22 : decode cL_cart 22 = .ok (.ireturn, 1) := by decide +kernel
set_option maxRecDepth 20000 in
theorem kb_267_0 : ∀ q ∈ tb_267_0, s_atx 267 yL_cart cL_cart q.1 q.2 := (List.forall_mem_cons.mpr ⟨⟨s_ldAn dL_cart_0 rfl, s_mo_ldA _ _⟩, (List.forall_mem_cons.mpr ⟨⟨s_iconst dL_cart_1 (by decide +kernel), s_mo_push _ _⟩, (List.forall_mem_cons.mpr ⟨⟨s_ldAn dL_cart_2 rfl, s_mo_ldA _ _⟩, (List.forall_mem_cons.mpr ⟨⟨s_ldIn dL_cart_3 rfl, s_mo_ldI _ _⟩, (List.forall_mem_cons.mpr ⟨⟨s_ldIn dL_cart_4 rfl, s_mo_ldI _ _⟩, (List.forall_mem_cons.mpr ⟨⟨s_sV mk_267 mk_108 ok_108 (by decide +kernel) dL_cart_5 w_809 w_810 w_811 (Or.inr ⟨7, _, _, rfl, rfl⟩), s_h2 mk_267 (by decide) rfl rfl (by decide) (by decide) w_756 w_757 (by decide +kernel) (by decide +kernel) (by decide +kernel) (Or.inr ⟨dL_cart_13, rfl⟩) (Or.inr ⟨dL_cart_17, rfl⟩)⟩, (List.forall_mem_cons.mpr ⟨⟨s_i2l dL_cart_8, s_mo_i2l _⟩, (List.forall_mem_cons.mpr ⟨⟨s_last dL_cart_9, s_mo_last _⟩, (List.forall_mem_cons.mpr ⟨⟨s_goto dL_cart_10 (by decide), s_mo_goto _⟩, (List.forall_mem_cons.mpr ⟨⟨s_iconst dL_cart_15 (by decide +kernel), s_mo_push _ _⟩, (List.forall_mem_cons.mpr ⟨s_r1 mk_267 dL_cart_16, (List.forall_mem_cons.mpr ⟨⟨s_iconst dL_cart_19 (by decide +kernel), s_mo_push _ _⟩, (List.forall_mem_cons.mpr ⟨s_r1 mk_267 dL_cart_20, (List.forall_mem_cons.mpr ⟨⟨s_iconst dL_cart_21 (by decide +kernel), s_mo_push _ _⟩, (List.forall_mem_cons.mpr ⟨s_r1 mk_267 dL_cart_22, (fun _ h => absurd h List.not_mem_nil)⟩)⟩)⟩)⟩)⟩)⟩)⟩)⟩)⟩)⟩)⟩)⟩)⟩)⟩)⟩)
theorem km_267 : ∀ t ∈ tm_267, s_tok 267 t := (List.forall_mem_cons.mpr ⟨s_lift mk_267 kb_267_0, (fun _ h => absurd h List.not_mem_nil)⟩)
theorem dL_strew_0 : decode cL_strew 0 = .ok (.aload_n 3, 1) := by decide +kernel
theorem dL_strew_1 : decode cL_strew 1 = .ok (.iconst 0, 1) := by decide +kernel
theorem dL_strew_2 : decode cL_strew 2 = .ok (.aload_n 0, 1) := by decide +kernel
theorem dL_strew_3 : decode cL_strew 3 = .ok (.iload_n 1, 1) := by decide +kernel
theorem dL_strew_4 : decode cL_strew 4 = .ok (.iload_n 2, 1) := by decide +kernel
theorem dL_strew_5 : decode cL_strew 5 = .ok (.invokevirtual 31, 3) := by decide +kernel
theorem dL_strew_8 : decode cL_strew 8 = .ok (.i2l, 1) := by decide +kernel
theorem dL_strew_9 : decode cL_strew 9 = .ok (.lastore, 1) := by decide +kernel
theorem dL_strew_10 : decode cL_strew 10 = .ok (.goto 11, 3) := by decide +kernel
theorem dL_strew_13 : decode cL_strew 13 = .ok (.astore 4, 2) := by decide +kernel
theorem dL_strew_15 : decode cL_strew 15 = .ok (.iconst 1, 1) := by decide +kernel
theorem dL_strew_16 : decode cL_strew 16 = .ok (.ireturn, 1) := by decide +kernel
theorem dL_strew_17 : decode cL_strew 17 = .ok (.astore 4, 2) := by decide +kernel
theorem dL_strew_19 : decode cL_strew 19 = .ok (.iconst 2, 1) := by decide +kernel
theorem dL_strew_20 : decode cL_strew 20 = .ok (.ireturn, 1) := by decide +kernel
theorem dL_strew_21 : decode cL_strew 21 = .ok (.iconst 0, 1) := by decide +kernel
theorem dL_strew_22 : decode cL_strew 22 = .ok (.ireturn, 1) := by decide +kernel
set_option maxRecDepth 20000 in
theorem kb_268_0 : ∀ q ∈ tb_268_0, s_atx 268 yL_strew cL_strew q.1 q.2 := (List.forall_mem_cons.mpr ⟨⟨s_ldAn dL_strew_0 rfl, s_mo_ldA _ _⟩, (List.forall_mem_cons.mpr ⟨⟨s_iconst dL_strew_1 (by decide +kernel), s_mo_push _ _⟩, (List.forall_mem_cons.mpr ⟨⟨s_ldAn dL_strew_2 rfl, s_mo_ldA _ _⟩, (List.forall_mem_cons.mpr ⟨⟨s_ldIn dL_strew_3 rfl, s_mo_ldI _ _⟩, (List.forall_mem_cons.mpr ⟨⟨s_ldIn dL_strew_4 rfl, s_mo_ldI _ _⟩, (List.forall_mem_cons.mpr ⟨⟨s_sV mk_268 mk_109 ok_109 (by decide +kernel) dL_strew_5 w_816 w_817 w_818 (Or.inr ⟨7, _, _, rfl, rfl⟩), s_h2 mk_268 (by decide) rfl rfl (by decide) (by decide) w_756 w_490 (by decide +kernel) (by decide +kernel) (by decide +kernel) (Or.inr ⟨dL_strew_13, rfl⟩) (Or.inr ⟨dL_strew_17, rfl⟩)⟩, (List.forall_mem_cons.mpr ⟨⟨s_i2l dL_strew_8, s_mo_i2l _⟩, (List.forall_mem_cons.mpr ⟨⟨s_last dL_strew_9, s_mo_last _⟩, (List.forall_mem_cons.mpr ⟨⟨s_goto dL_strew_10 (by decide), s_mo_goto _⟩, (List.forall_mem_cons.mpr ⟨⟨s_iconst dL_strew_15 (by decide +kernel), s_mo_push _ _⟩, (List.forall_mem_cons.mpr ⟨s_r1 mk_268 dL_strew_16, (List.forall_mem_cons.mpr ⟨⟨s_iconst dL_strew_19 (by decide +kernel), s_mo_push _ _⟩, (List.forall_mem_cons.mpr ⟨s_r1 mk_268 dL_strew_20, (List.forall_mem_cons.mpr ⟨⟨s_iconst dL_strew_21 (by decide +kernel), s_mo_push _ _⟩, (List.forall_mem_cons.mpr ⟨s_r1 mk_268 dL_strew_22, (fun _ h => absurd h List.not_mem_nil)⟩)⟩)⟩)⟩)⟩)⟩)⟩)⟩)⟩)⟩)⟩)⟩)⟩)⟩)⟩)
theorem km_268 : ∀ t ∈ tm_268, s_tok 268 t := (List.forall_mem_cons.mpr ⟨s_lift mk_268 kb_268_0, (fun _ h => absurd h List.not_mem_nil)⟩)
theorem dL_runs_0 : decode cL_runs 0 = .ok (.aload_n 2, 1) := by decide +kernel
theorem dL_runs_1 : decode cL_runs 1 = .ok (.iconst 0, 1) := by decide +kernel
theorem dL_runs_2 : decode cL_runs 2 = .ok (.aload_n 0, 1) := by decide +kernel
theorem dL_runs_3 : decode cL_runs 3 = .ok (.iload_n 1, 1) := by decide +kernel
theorem dL_runs_4 : decode cL_runs 4 = .ok (.invokevirtual 34, 3) := by decide +kernel
theorem dL_runs_7 : decode cL_runs 7 = .ok (.i2l, 1) := by decide +kernel
theorem dL_runs_8 : decode cL_runs 8 = .ok (.lastore, 1) := by decide +kernel
theorem dL_runs_9 : decode cL_runs 9 = .ok (.goto 6, 3) := by decide +kernel
theorem dL_runs_12 : decode cL_runs 12 = .ok (.astore_n 3, 1) := by decide +kernel
theorem dL_runs_13 : decode cL_runs 13 = .ok (.iconst 1, 1) := by decide +kernel
theorem dL_runs_14 : decode cL_runs 14 = .ok (.ireturn, 1) := by decide +kernel
theorem dL_runs_15 : decode cL_runs 15 = .ok (.iconst 0, 1) := by decide +kernel
theorem dL_runs_16 : decode cL_runs 16 = .ok (.ireturn, 1) := by decide +kernel
set_option maxRecDepth 20000 in
theorem kb_269_0 : ∀ q ∈ tb_269_0, s_atx 269 yL_runs cL_runs q.1 q.2 := (List.forall_mem_cons.mpr ⟨⟨s_ldAn dL_runs_0 rfl, s_mo_ldA _ _⟩, (List.forall_mem_cons.mpr ⟨⟨s_iconst dL_runs_1 (by decide +kernel), s_mo_push _ _⟩, (List.forall_mem_cons.mpr ⟨⟨s_ldAn dL_runs_2 rfl, s_mo_ldA _ _⟩, (List.forall_mem_cons.mpr ⟨⟨s_ldIn dL_runs_3 rfl, s_mo_ldI _ _⟩, (List.forall_mem_cons.mpr ⟨⟨s_sV mk_269 mk_110 ok_110 (by decide +kernel) dL_runs_4 w_826 w_827 w_828 (Or.inr ⟨7, _, _, rfl, rfl⟩), s_h1 mk_269 rfl (by decide) w_490 (by decide +kernel) (Or.inl ⟨3, dL_runs_12, rfl, rfl⟩)⟩, (List.forall_mem_cons.mpr ⟨⟨s_i2l dL_runs_7, s_mo_i2l _⟩, (List.forall_mem_cons.mpr ⟨⟨s_last dL_runs_8, s_mo_last _⟩, (List.forall_mem_cons.mpr ⟨⟨s_goto dL_runs_9 (by decide), s_mo_goto _⟩, (List.forall_mem_cons.mpr ⟨⟨s_iconst dL_runs_13 (by decide +kernel), s_mo_push _ _⟩, (List.forall_mem_cons.mpr ⟨s_r1 mk_269 dL_runs_14, (List.forall_mem_cons.mpr ⟨⟨s_iconst dL_runs_15 (by decide +kernel), s_mo_push _ _⟩, (List.forall_mem_cons.mpr ⟨s_r1 mk_269 dL_runs_16, (fun _ h => absurd h List.not_mem_nil)⟩)⟩)⟩)⟩)⟩)⟩)⟩)⟩)⟩)⟩)⟩)⟩)
theorem km_269 : ∀ t ∈ tm_269, s_tok 269 t := (List.forall_mem_cons.mpr ⟨s_lift mk_269 kb_269_0, (fun _ h => absurd h List.not_mem_nil)⟩)
theorem dL_load_0 : decode cL_load 0 = .ok (.aload_n 3, 1) := by decide +kernel
theorem dL_load_1 : decode cL_load 1 = .ok (.iconst 0, 1) := by decide +kernel
theorem dL_load_2 : decode cL_load 2 = .ok (.aload_n 0, 1) := by decide +kernel
theorem dL_load_3 : decode cL_load 3 = .ok (.iload_n 1, 1) := by decide +kernel
theorem dL_load_4 : decode cL_load 4 = .ok (.iload_n 2, 1) := by decide +kernel
theorem dL_load_5 : decode cL_load 5 = .ok (.invokevirtual 38, 3) := by decide +kernel
theorem dL_load_8 : decode cL_load 8 = .ok (.i2l, 1) := by decide +kernel
theorem dL_load_9 : decode cL_load 9 = .ok (.lastore, 1) := by decide +kernel
theorem dL_load_10 : decode cL_load 10 = .ok (.goto 7, 3) := by decide +kernel
theorem dL_load_13 : decode cL_load 13 = .ok (.astore 4, 2) := by decide +kernel
theorem dL_load_15 : decode cL_load 15 = .ok (.iconst 1, 1) := by decide +kernel
theorem dL_load_16 : decode cL_load 16 = .ok (.ireturn, 1) := by decide +kernel
theorem dL_load_17 : decode cL_load 17 = .ok (.iconst 0, 1) := by decide +kernel
theorem dL_load_18 : decode cL_load 18 = .ok (.ireturn, 1) := by decide +kernel
set_option maxRecDepth 20000 in
theorem kb_270_0 : ∀ q ∈ tb_270_0, s_atx 270 yL_load cL_load q.1 q.2 := (List.forall_mem_cons.mpr ⟨⟨s_ldAn dL_load_0 rfl, s_mo_ldA _ _⟩, (List.forall_mem_cons.mpr ⟨⟨s_iconst dL_load_1 (by decide +kernel), s_mo_push _ _⟩, (List.forall_mem_cons.mpr ⟨⟨s_ldAn dL_load_2 rfl, s_mo_ldA _ _⟩, (List.forall_mem_cons.mpr ⟨⟨s_ldIn dL_load_3 rfl, s_mo_ldI _ _⟩, (List.forall_mem_cons.mpr ⟨⟨s_ldIn dL_load_4 rfl, s_mo_ldI _ _⟩, (List.forall_mem_cons.mpr ⟨⟨s_sV mk_270 mk_111 ok_111 (by decide +kernel) dL_load_5 w_833 w_834 w_835 (Or.inr ⟨7, _, _, rfl, rfl⟩), s_h1 mk_270 rfl (by decide) w_756 (by decide +kernel) (Or.inr ⟨dL_load_13, rfl⟩)⟩, (List.forall_mem_cons.mpr ⟨⟨s_i2l dL_load_8, s_mo_i2l _⟩, (List.forall_mem_cons.mpr ⟨⟨s_last dL_load_9, s_mo_last _⟩, (List.forall_mem_cons.mpr ⟨⟨s_goto dL_load_10 (by decide), s_mo_goto _⟩, (List.forall_mem_cons.mpr ⟨⟨s_iconst dL_load_15 (by decide +kernel), s_mo_push _ _⟩, (List.forall_mem_cons.mpr ⟨s_r1 mk_270 dL_load_16, (List.forall_mem_cons.mpr ⟨⟨s_iconst dL_load_17 (by decide +kernel), s_mo_push _ _⟩, (List.forall_mem_cons.mpr ⟨s_r1 mk_270 dL_load_18, (fun _ h => absurd h List.not_mem_nil)⟩)⟩)⟩)⟩)⟩)⟩)⟩)⟩)⟩)⟩)⟩)⟩)⟩)
theorem km_270 : ∀ t ∈ tm_270, s_tok 270 t := (List.forall_mem_cons.mpr ⟨s_lift mk_270 kb_270_0, (fun _ h => absurd h List.not_mem_nil)⟩)
theorem dL_holds_0 : decode cL_holds 0 = .ok (.aload 4, 2) := by decide +kernel
theorem dL_holds_2 : decode cL_holds 2 = .ok (.iconst 0, 1) := by decide +kernel
theorem dL_holds_3 : decode cL_holds 3 = .ok (.aload_n 0, 1) := by decide +kernel
theorem dL_holds_4 : decode cL_holds 4 = .ok (.iload_n 1, 1) := by decide +kernel
theorem dL_holds_5 : decode cL_holds 5 = .ok (.iload_n 2, 1) := by decide +kernel
theorem dL_holds_6 : decode cL_holds 6 = .ok (.iload_n 3, 1) := by decide +kernel
theorem dL_holds_7 : decode cL_holds 7 = .ok (.invokevirtual 41, 3) := by decide +kernel
theorem dL_holds_10 : decode cL_holds 10 = .ok (.ifCond .eq 7, 3) := by decide +kernel
theorem dL_holds_13 : decode cL_holds 13 = .ok (.lconst 1, 1) := by decide +kernel
theorem dL_holds_14 : decode cL_holds 14 = .ok (.goto 4, 3) := by decide +kernel
theorem dL_holds_17 : decode cL_holds 17 = .ok (.lconst 0, 1) := by decide +kernel
theorem dL_holds_18 : decode cL_holds 18 = .ok (.lastore, 1) := by decide +kernel
theorem dL_holds_19 : decode cL_holds 19 = .ok (.goto 11, 3) := by decide +kernel
theorem dL_holds_22 : decode cL_holds 22 = .ok (.astore 5, 2) := by decide +kernel
theorem dL_holds_24 : decode cL_holds 24 = .ok (.iconst 1, 1) := by decide +kernel
theorem dL_holds_25 : decode cL_holds 25 = .ok (.ireturn, 1) := by decide +kernel
theorem dL_holds_26 : decode cL_holds 26 = .ok (.astore 5, 2) := by decide +kernel
theorem dL_holds_28 : decode cL_holds 28 = .ok (.iconst 2, 1) := by decide +kernel
theorem dL_holds_29 : decode cL_holds 29 = .ok (.ireturn, 1) := by decide +kernel
theorem dL_holds_30 : decode cL_holds 30 = .ok (.iconst 0, 1) := by decide +kernel
theorem dL_holds_31 : decode cL_holds 31 = .ok (.ireturn, 1) := by decide +kernel
set_option maxRecDepth 20000 in
theorem kb_271_0 : ∀ q ∈ tb_271_0, s_atx 271 yL_holds cL_holds q.1 q.2 := (List.forall_mem_cons.mpr ⟨⟨s_ldA dL_holds_0, s_mo_ldA _ _⟩, (List.forall_mem_cons.mpr ⟨⟨s_iconst dL_holds_2 (by decide +kernel), s_mo_push _ _⟩, (List.forall_mem_cons.mpr ⟨⟨s_ldAn dL_holds_3 rfl, s_mo_ldA _ _⟩, (List.forall_mem_cons.mpr ⟨⟨s_ldIn dL_holds_4 rfl, s_mo_ldI _ _⟩, (List.forall_mem_cons.mpr ⟨⟨s_ldIn dL_holds_5 rfl, s_mo_ldI _ _⟩, (List.forall_mem_cons.mpr ⟨⟨s_ldIn dL_holds_6 rfl, s_mo_ldI _ _⟩, (List.forall_mem_cons.mpr ⟨⟨s_sV mk_271 mk_112 ok_112 (by decide +kernel) dL_holds_7 w_855 w_856 w_857 (Or.inr ⟨7, _, _, rfl, rfl⟩), s_h2 mk_271 (by decide) rfl rfl (by decide) (by decide) w_756 w_490 (by decide +kernel) (by decide +kernel) (by decide +kernel) (Or.inr ⟨dL_holds_22, rfl⟩) (Or.inr ⟨dL_holds_26, rfl⟩)⟩, (List.forall_mem_cons.mpr ⟨⟨s_ifeq dL_holds_10 (by decide), s_mo_ifeq _ _⟩, (List.forall_mem_cons.mpr ⟨⟨s_lconst dL_holds_13 (by decide +kernel), s_mo_push _ _⟩, (List.forall_mem_cons.mpr ⟨⟨s_goto dL_holds_14 (by decide), s_mo_goto _⟩, (List.forall_mem_cons.mpr ⟨⟨s_lconst dL_holds_17 (by decide +kernel), s_mo_push _ _⟩, (List.forall_mem_cons.mpr ⟨⟨s_last dL_holds_18, s_mo_last _⟩, (List.forall_mem_cons.mpr ⟨⟨s_goto dL_holds_19 (by decide), s_mo_goto _⟩, (List.forall_mem_cons.mpr ⟨⟨s_iconst dL_holds_24 (by decide +kernel), s_mo_push _ _⟩, (List.forall_mem_cons.mpr ⟨s_r1 mk_271 dL_holds_25, (List.forall_mem_cons.mpr ⟨⟨s_iconst dL_holds_28 (by decide +kernel), s_mo_push _ _⟩, (List.forall_mem_cons.mpr ⟨s_r1 mk_271 dL_holds_29, (List.forall_mem_cons.mpr ⟨⟨s_iconst dL_holds_30 (by decide +kernel), s_mo_push _ _⟩, (List.forall_mem_cons.mpr ⟨s_r1 mk_271 dL_holds_31, (fun _ h => absurd h List.not_mem_nil)⟩)⟩)⟩)⟩)⟩)⟩)⟩)⟩)⟩)⟩)⟩)⟩)⟩)⟩)⟩)⟩)⟩)⟩)⟩)
theorem km_271 : ∀ t ∈ tm_271, s_tok 271 t := (List.forall_mem_cons.mpr ⟨s_lift mk_271 kb_271_0, (fun _ h => absurd h List.not_mem_nil)⟩)
theorem dL_breaks_0 : decode cL_breaks 0 = .ok (.aload_n 2, 1) := by decide +kernel
theorem dL_breaks_1 : decode cL_breaks 1 = .ok (.iconst 0, 1) := by decide +kernel
theorem dL_breaks_2 : decode cL_breaks 2 = .ok (.aload_n 0, 1) := by decide +kernel
theorem dL_breaks_3 : decode cL_breaks 3 = .ok (.iload_n 1, 1) := by decide +kernel
theorem dL_breaks_4 : decode cL_breaks 4 = .ok (.invokevirtual 45, 3) := by decide +kernel
theorem dL_breaks_7 : decode cL_breaks 7 = .ok (.i2l, 1) := by decide +kernel
theorem dL_breaks_8 : decode cL_breaks 8 = .ok (.lastore, 1) := by decide +kernel
theorem dL_breaks_9 : decode cL_breaks 9 = .ok (.goto 6, 3) := by decide +kernel
theorem dL_breaks_12 : decode cL_breaks 12 = .ok (.astore_n 3, 1) := by decide +kernel
theorem dL_breaks_13 : decode cL_breaks 13 = .ok (.iconst 1, 1) := by decide +kernel
theorem dL_breaks_14 : decode cL_breaks 14 = .ok (.ireturn, 1) := by decide +kernel
theorem dL_breaks_15 : decode cL_breaks 15 = .ok (.iconst 0, 1) := by decide +kernel
theorem dL_breaks_16 : decode cL_breaks 16 = .ok (.ireturn, 1) := by decide +kernel
set_option maxRecDepth 20000 in
theorem kb_272_0 : ∀ q ∈ tb_272_0, s_atx 272 yL_breaks cL_breaks q.1 q.2 := (List.forall_mem_cons.mpr ⟨⟨s_ldAn dL_breaks_0 rfl, s_mo_ldA _ _⟩, (List.forall_mem_cons.mpr ⟨⟨s_iconst dL_breaks_1 (by decide +kernel), s_mo_push _ _⟩, (List.forall_mem_cons.mpr ⟨⟨s_ldAn dL_breaks_2 rfl, s_mo_ldA _ _⟩, (List.forall_mem_cons.mpr ⟨⟨s_ldIn dL_breaks_3 rfl, s_mo_ldI _ _⟩, (List.forall_mem_cons.mpr ⟨⟨s_sV mk_272 mk_113 ok_113 (by decide +kernel) dL_breaks_4 w_868 w_869 w_870 (Or.inr ⟨7, _, _, rfl, rfl⟩), s_h1 mk_272 rfl (by decide) w_756 (by decide +kernel) (Or.inl ⟨3, dL_breaks_12, rfl, rfl⟩)⟩, (List.forall_mem_cons.mpr ⟨⟨s_i2l dL_breaks_7, s_mo_i2l _⟩, (List.forall_mem_cons.mpr ⟨⟨s_last dL_breaks_8, s_mo_last _⟩, (List.forall_mem_cons.mpr ⟨⟨s_goto dL_breaks_9 (by decide), s_mo_goto _⟩, (List.forall_mem_cons.mpr ⟨⟨s_iconst dL_breaks_13 (by decide +kernel), s_mo_push _ _⟩, (List.forall_mem_cons.mpr ⟨s_r1 mk_272 dL_breaks_14, (List.forall_mem_cons.mpr ⟨⟨s_iconst dL_breaks_15 (by decide +kernel), s_mo_push _ _⟩, (List.forall_mem_cons.mpr ⟨s_r1 mk_272 dL_breaks_16, (fun _ h => absurd h List.not_mem_nil)⟩)⟩)⟩)⟩)⟩)⟩)⟩)⟩)⟩)⟩)⟩)⟩)
theorem km_272 : ∀ t ∈ tm_272, s_tok 272 t := (List.forall_mem_cons.mpr ⟨s_lift mk_272 kb_272_0, (fun _ h => absurd h List.not_mem_nil)⟩)
theorem dL_light_0 : decode cL_light 0 = .ok (.aload 4, 2) := by decide +kernel
theorem dL_light_2 : decode cL_light 2 = .ok (.iconst 0, 1) := by decide +kernel
theorem dL_light_3 : decode cL_light 3 = .ok (.aload_n 0, 1) := by decide +kernel
theorem dL_light_4 : decode cL_light 4 = .ok (.iload_n 1, 1) := by decide +kernel
theorem dL_light_5 : decode cL_light 5 = .ok (.iload_n 2, 1) := by decide +kernel
theorem dL_light_6 : decode cL_light 6 = .ok (.iload_n 3, 1) := by decide +kernel
theorem dL_light_7 : decode cL_light 7 = .ok (.invokevirtual 48, 3) := by decide +kernel
theorem dL_light_10 : decode cL_light 10 = .ok (.i2l, 1) := by decide +kernel
theorem dL_light_11 : decode cL_light 11 = .ok (.lastore, 1) := by decide +kernel
theorem dL_light_12 : decode cL_light 12 = .ok (.goto 11, 3) := by decide +kernel
theorem dL_light_15 : decode cL_light 15 = .ok (.astore 5, 2) := by decide +kernel
theorem dL_light_17 : decode cL_light 17 = .ok (.iconst 1, 1) := by decide +kernel
theorem dL_light_18 : decode cL_light 18 = .ok (.ireturn, 1) := by decide +kernel
theorem dL_light_19 : decode cL_light 19 = .ok (.astore 5, 2) := by decide +kernel
theorem dL_light_21 : decode cL_light 21 = .ok (.iconst 2, 1) := by decide +kernel
theorem dL_light_22 : decode cL_light 22 = .ok (.ireturn, 1) := by decide +kernel
theorem dL_light_23 : decode cL_light 23 = .ok (.iconst 0, 1) := by decide +kernel
theorem dL_light_24 : decode cL_light 24 = .ok (.ireturn, 1) := by decide +kernel
set_option maxRecDepth 20000 in
theorem kb_273_0 : ∀ q ∈ tb_273_0, s_atx 273 yL_light cL_light q.1 q.2 := (List.forall_mem_cons.mpr ⟨⟨s_ldA dL_light_0, s_mo_ldA _ _⟩, (List.forall_mem_cons.mpr ⟨⟨s_iconst dL_light_2 (by decide +kernel), s_mo_push _ _⟩, (List.forall_mem_cons.mpr ⟨⟨s_ldAn dL_light_3 rfl, s_mo_ldA _ _⟩, (List.forall_mem_cons.mpr ⟨⟨s_ldIn dL_light_4 rfl, s_mo_ldI _ _⟩, (List.forall_mem_cons.mpr ⟨⟨s_ldIn dL_light_5 rfl, s_mo_ldI _ _⟩, (List.forall_mem_cons.mpr ⟨⟨s_ldIn dL_light_6 rfl, s_mo_ldI _ _⟩, (List.forall_mem_cons.mpr ⟨⟨s_sV mk_273 mk_114 ok_114 (by decide +kernel) dL_light_7 w_875 w_876 w_877 (Or.inr ⟨7, _, _, rfl, rfl⟩), s_h2 mk_273 (by decide) rfl rfl (by decide) (by decide) w_756 w_757 (by decide +kernel) (by decide +kernel) (by decide +kernel) (Or.inr ⟨dL_light_15, rfl⟩) (Or.inr ⟨dL_light_19, rfl⟩)⟩, (List.forall_mem_cons.mpr ⟨⟨s_i2l dL_light_10, s_mo_i2l _⟩, (List.forall_mem_cons.mpr ⟨⟨s_last dL_light_11, s_mo_last _⟩, (List.forall_mem_cons.mpr ⟨⟨s_goto dL_light_12 (by decide), s_mo_goto _⟩, (List.forall_mem_cons.mpr ⟨⟨s_iconst dL_light_17 (by decide +kernel), s_mo_push _ _⟩, (List.forall_mem_cons.mpr ⟨s_r1 mk_273 dL_light_18, (List.forall_mem_cons.mpr ⟨⟨s_iconst dL_light_21 (by decide +kernel), s_mo_push _ _⟩, (List.forall_mem_cons.mpr ⟨s_r1 mk_273 dL_light_22, (List.forall_mem_cons.mpr ⟨⟨s_iconst dL_light_23 (by decide +kernel), s_mo_push _ _⟩, (List.forall_mem_cons.mpr ⟨s_r1 mk_273 dL_light_24, (fun _ h => absurd h List.not_mem_nil)⟩)⟩)⟩)⟩)⟩)⟩)⟩)⟩)⟩)⟩)⟩)⟩)⟩)⟩)⟩)⟩)
theorem km_273 : ∀ t ∈ tm_273, s_tok 273 t := (List.forall_mem_cons.mpr ⟨s_lift mk_273 kb_273_0, (fun _ h => absurd h List.not_mem_nil)⟩)
theorem dL_bill_0 : decode cL_bill 0 = .ok (.aload 4, 2) := by decide +kernel
theorem dL_bill_2 : decode cL_bill 2 = .ok (.iconst 0, 1) := by decide +kernel
theorem dL_bill_3 : decode cL_bill 3 = .ok (.aload_n 0, 1) := by decide +kernel
theorem dL_bill_4 : decode cL_bill 4 = .ok (.iload_n 1, 1) := by decide +kernel
theorem dL_bill_5 : decode cL_bill 5 = .ok (.iload_n 2, 1) := by decide +kernel
theorem dL_bill_6 : decode cL_bill 6 = .ok (.iload_n 3, 1) := by decide +kernel
theorem dL_bill_7 : decode cL_bill 7 = .ok (.invokevirtual 52, 3) := by decide +kernel
theorem dL_bill_10 : decode cL_bill 10 = .ok (.i2l, 1) := by decide +kernel
theorem dL_bill_11 : decode cL_bill 11 = .ok (.lastore, 1) := by decide +kernel
theorem dL_bill_12 : decode cL_bill 12 = .ok (.goto 11, 3) := by decide +kernel
theorem dL_bill_15 : decode cL_bill 15 = .ok (.astore 5, 2) := by decide +kernel
theorem dL_bill_17 : decode cL_bill 17 = .ok (.iconst 1, 1) := by decide +kernel
theorem dL_bill_18 : decode cL_bill 18 = .ok (.ireturn, 1) := by decide +kernel
theorem dL_bill_19 : decode cL_bill 19 = .ok (.astore 5, 2) := by decide +kernel
theorem dL_bill_21 : decode cL_bill 21 = .ok (.iconst 2, 1) := by decide +kernel
theorem dL_bill_22 : decode cL_bill 22 = .ok (.ireturn, 1) := by decide +kernel
theorem dL_bill_23 : decode cL_bill 23 = .ok (.iconst 0, 1) := by decide +kernel
theorem dL_bill_24 : decode cL_bill 24 = .ok (.ireturn, 1) := by decide +kernel
set_option maxRecDepth 20000 in
theorem kb_274_0 : ∀ q ∈ tb_274_0, s_atx 274 yL_bill cL_bill q.1 q.2 := (List.forall_mem_cons.mpr ⟨⟨s_ldA dL_bill_0, s_mo_ldA _ _⟩, (List.forall_mem_cons.mpr ⟨⟨s_iconst dL_bill_2 (by decide +kernel), s_mo_push _ _⟩, (List.forall_mem_cons.mpr ⟨⟨s_ldAn dL_bill_3 rfl, s_mo_ldA _ _⟩, (List.forall_mem_cons.mpr ⟨⟨s_ldIn dL_bill_4 rfl, s_mo_ldI _ _⟩, (List.forall_mem_cons.mpr ⟨⟨s_ldIn dL_bill_5 rfl, s_mo_ldI _ _⟩, (List.forall_mem_cons.mpr ⟨⟨s_ldIn dL_bill_6 rfl, s_mo_ldI _ _⟩, (List.forall_mem_cons.mpr ⟨⟨s_sV mk_274 mk_115 ok_115 (by decide +kernel) dL_bill_7 w_898 w_899 w_900 (Or.inr ⟨7, _, _, rfl, rfl⟩), s_h2 mk_274 (by decide) rfl rfl (by decide) (by decide) w_756 w_490 (by decide +kernel) (by decide +kernel) (by decide +kernel) (Or.inr ⟨dL_bill_15, rfl⟩) (Or.inr ⟨dL_bill_19, rfl⟩)⟩, (List.forall_mem_cons.mpr ⟨⟨s_i2l dL_bill_10, s_mo_i2l _⟩, (List.forall_mem_cons.mpr ⟨⟨s_last dL_bill_11, s_mo_last _⟩, (List.forall_mem_cons.mpr ⟨⟨s_goto dL_bill_12 (by decide), s_mo_goto _⟩, (List.forall_mem_cons.mpr ⟨⟨s_iconst dL_bill_17 (by decide +kernel), s_mo_push _ _⟩, (List.forall_mem_cons.mpr ⟨s_r1 mk_274 dL_bill_18, (List.forall_mem_cons.mpr ⟨⟨s_iconst dL_bill_21 (by decide +kernel), s_mo_push _ _⟩, (List.forall_mem_cons.mpr ⟨s_r1 mk_274 dL_bill_22, (List.forall_mem_cons.mpr ⟨⟨s_iconst dL_bill_23 (by decide +kernel), s_mo_push _ _⟩, (List.forall_mem_cons.mpr ⟨s_r1 mk_274 dL_bill_24, (fun _ h => absurd h List.not_mem_nil)⟩)⟩)⟩)⟩)⟩)⟩)⟩)⟩)⟩)⟩)⟩)⟩)⟩)⟩)⟩)⟩)
theorem km_274 : ∀ t ∈ tm_274, s_tok 274 t := (List.forall_mem_cons.mpr ⟨s_lift mk_274 kb_274_0, (fun _ h => absurd h List.not_mem_nil)⟩)
theorem dL_seen_0 : decode cL_seen 0 = .ok (.aload_n 3, 1) := by decide +kernel
theorem dL_seen_1 : decode cL_seen 1 = .ok (.iconst 0, 1) := by decide +kernel
theorem dL_seen_2 : decode cL_seen 2 = .ok (.aload_n 0, 1) := by decide +kernel
theorem dL_seen_3 : decode cL_seen 3 = .ok (.iload_n 1, 1) := by decide +kernel
theorem dL_seen_4 : decode cL_seen 4 = .ok (.iload_n 2, 1) := by decide +kernel
theorem dL_seen_5 : decode cL_seen 5 = .ok (.invokevirtual 55, 3) := by decide +kernel
theorem dL_seen_8 : decode cL_seen 8 = .ok (.ifCond .eq 7, 3) := by decide +kernel
theorem dL_seen_11 : decode cL_seen 11 = .ok (.lconst 1, 1) := by decide +kernel
theorem dL_seen_12 : decode cL_seen 12 = .ok (.goto 4, 3) := by decide +kernel
theorem dL_seen_15 : decode cL_seen 15 = .ok (.lconst 0, 1) := by decide +kernel
theorem dL_seen_16 : decode cL_seen 16 = .ok (.lastore, 1) := by decide +kernel
theorem dL_seen_17 : decode cL_seen 17 = .ok (.goto 7, 3) := by decide +kernel
theorem dL_seen_20 : decode cL_seen 20 = .ok (.astore 4, 2) := by decide +kernel
theorem dL_seen_22 : decode cL_seen 22 = .ok (.iconst 1, 1) := by decide +kernel
theorem dL_seen_23 : decode cL_seen 23 = .ok (.ireturn, 1) := by decide +kernel
theorem dL_seen_24 : decode cL_seen 24 = .ok (.iconst 0, 1) := by decide +kernel
theorem dL_seen_25 : decode cL_seen 25 = .ok (.ireturn, 1) := by decide +kernel
set_option maxRecDepth 20000 in
theorem kb_275_0 : ∀ q ∈ tb_275_0, s_atx 275 yL_seen cL_seen q.1 q.2 := (List.forall_mem_cons.mpr ⟨⟨s_ldAn dL_seen_0 rfl, s_mo_ldA _ _⟩, (List.forall_mem_cons.mpr ⟨⟨s_iconst dL_seen_1 (by decide +kernel), s_mo_push _ _⟩, (List.forall_mem_cons.mpr ⟨⟨s_ldAn dL_seen_2 rfl, s_mo_ldA _ _⟩, (List.forall_mem_cons.mpr ⟨⟨s_ldIn dL_seen_3 rfl, s_mo_ldI _ _⟩, (List.forall_mem_cons.mpr ⟨⟨s_ldIn dL_seen_4 rfl, s_mo_ldI _ _⟩, (List.forall_mem_cons.mpr ⟨⟨s_sV mk_275 mk_116 ok_116 (by decide +kernel) dL_seen_5 w_908 w_909 w_910 (Or.inr ⟨7, _, _, rfl, rfl⟩), s_h1 mk_275 rfl (by decide) w_756 (by decide +kernel) (Or.inr ⟨dL_seen_20, rfl⟩)⟩, (List.forall_mem_cons.mpr ⟨⟨s_ifeq dL_seen_8 (by decide), s_mo_ifeq _ _⟩, (List.forall_mem_cons.mpr ⟨⟨s_lconst dL_seen_11 (by decide +kernel), s_mo_push _ _⟩, (List.forall_mem_cons.mpr ⟨⟨s_goto dL_seen_12 (by decide), s_mo_goto _⟩, (List.forall_mem_cons.mpr ⟨⟨s_lconst dL_seen_15 (by decide +kernel), s_mo_push _ _⟩, (List.forall_mem_cons.mpr ⟨⟨s_last dL_seen_16, s_mo_last _⟩, (List.forall_mem_cons.mpr ⟨⟨s_goto dL_seen_17 (by decide), s_mo_goto _⟩, (List.forall_mem_cons.mpr ⟨⟨s_iconst dL_seen_22 (by decide +kernel), s_mo_push _ _⟩, (List.forall_mem_cons.mpr ⟨s_r1 mk_275 dL_seen_23, (List.forall_mem_cons.mpr ⟨⟨s_iconst dL_seen_24 (by decide +kernel), s_mo_push _ _⟩, (List.forall_mem_cons.mpr ⟨s_r1 mk_275 dL_seen_25, (fun _ h => absurd h List.not_mem_nil)⟩)⟩)⟩)⟩)⟩)⟩)⟩)⟩)⟩)⟩)⟩)⟩)⟩)⟩)⟩)⟩)
theorem km_275 : ∀ t ∈ tm_275, s_tok 275 t := (List.forall_mem_cons.mpr ⟨s_lift mk_275 kb_275_0, (fun _ h => absurd h List.not_mem_nil)⟩)
theorem dL_fined_0 : decode cL_fined 0 = .ok (.aload_n 3, 1) := by decide +kernel
theorem dL_fined_1 : decode cL_fined 1 = .ok (.iconst 0, 1) := by decide +kernel
theorem dL_fined_2 : decode cL_fined 2 = .ok (.aload_n 0, 1) := by decide +kernel
theorem dL_fined_3 : decode cL_fined 3 = .ok (.iload_n 1, 1) := by decide +kernel
theorem dL_fined_4 : decode cL_fined 4 = .ok (.iload_n 2, 1) := by decide +kernel
theorem dL_fined_5 : decode cL_fined 5 = .ok (.invokevirtual 59, 3) := by decide +kernel
theorem dL_fined_8 : decode cL_fined 8 = .ok (.i2l, 1) := by decide +kernel
theorem dL_fined_9 : decode cL_fined 9 = .ok (.lastore, 1) := by decide +kernel
theorem dL_fined_10 : decode cL_fined 10 = .ok (.goto 7, 3) := by decide +kernel
theorem dL_fined_13 : decode cL_fined 13 = .ok (.astore 4, 2) := by decide +kernel
theorem dL_fined_15 : decode cL_fined 15 = .ok (.iconst 1, 1) := by decide +kernel
theorem dL_fined_16 : decode cL_fined 16 = .ok (.ireturn, 1) := by decide +kernel
theorem dL_fined_17 : decode cL_fined 17 = .ok (.iconst 0, 1) := by decide +kernel
theorem dL_fined_18 : decode cL_fined 18 = .ok (.ireturn, 1) := by decide +kernel
set_option maxRecDepth 20000 in
theorem kb_276_0 : ∀ q ∈ tb_276_0, s_atx 276 yL_fined cL_fined q.1 q.2 := (List.forall_mem_cons.mpr ⟨⟨s_ldAn dL_fined_0 rfl, s_mo_ldA _ _⟩, (List.forall_mem_cons.mpr ⟨⟨s_iconst dL_fined_1 (by decide +kernel), s_mo_push _ _⟩, (List.forall_mem_cons.mpr ⟨⟨s_ldAn dL_fined_2 rfl, s_mo_ldA _ _⟩, (List.forall_mem_cons.mpr ⟨⟨s_ldIn dL_fined_3 rfl, s_mo_ldI _ _⟩, (List.forall_mem_cons.mpr ⟨⟨s_ldIn dL_fined_4 rfl, s_mo_ldI _ _⟩, (List.forall_mem_cons.mpr ⟨⟨s_sV mk_276 mk_117 ok_117 (by decide +kernel) dL_fined_5 w_936 w_937 w_938 (Or.inr ⟨7, _, _, rfl, rfl⟩), s_h1 mk_276 rfl (by decide) w_756 (by decide +kernel) (Or.inr ⟨dL_fined_13, rfl⟩)⟩, (List.forall_mem_cons.mpr ⟨⟨s_i2l dL_fined_8, s_mo_i2l _⟩, (List.forall_mem_cons.mpr ⟨⟨s_last dL_fined_9, s_mo_last _⟩, (List.forall_mem_cons.mpr ⟨⟨s_goto dL_fined_10 (by decide), s_mo_goto _⟩, (List.forall_mem_cons.mpr ⟨⟨s_iconst dL_fined_15 (by decide +kernel), s_mo_push _ _⟩, (List.forall_mem_cons.mpr ⟨s_r1 mk_276 dL_fined_16, (List.forall_mem_cons.mpr ⟨⟨s_iconst dL_fined_17 (by decide +kernel), s_mo_push _ _⟩, (List.forall_mem_cons.mpr ⟨s_r1 mk_276 dL_fined_18, (fun _ h => absurd h List.not_mem_nil)⟩)⟩)⟩)⟩)⟩)⟩)⟩)⟩)⟩)⟩)⟩)⟩)⟩)
theorem km_276 : ∀ t ∈ tm_276, s_tok 276 t := (List.forall_mem_cons.mpr ⟨s_lift mk_276 kb_276_0, (fun _ h => absurd h List.not_mem_nil)⟩)
theorem dL_seer_0 : decode cL_seer 0 = .ok (.aload_n 1, 1) := by decide +kernel
theorem dL_seer_1 : decode cL_seer 1 = .ok (.iconst 0, 1) := by decide +kernel
theorem dL_seer_2 : decode cL_seer 2 = .ok (.aload_n 0, 1) := by decide +kernel
theorem dL_seer_3 : decode cL_seer 3 = .ok (.invokevirtual 62, 3) := by decide +kernel
theorem dL_seer_6 : decode cL_seer 6 = .ok (.i2l, 1) := by decide +kernel
theorem dL_seer_7 : decode cL_seer 7 = .ok (.lastore, 1) := by decide +kernel
theorem dL_seer_8 : decode cL_seer 8 = .ok (.goto 6, 3) := by decide +kernel
theorem dL_seer_11 : decode cL_seer 11 = .ok (.astore_n 2, 1) := by decide +kernel
theorem dL_seer_12 : decode cL_seer 12 = .ok (.iconst 1, 1) := by decide +kernel
theorem dL_seer_13 : decode cL_seer 13 = .ok (.ireturn, 1) := by decide +kernel
theorem dL_seer_14 : decode cL_seer 14 = .ok (.iconst 0, 1) := by decide +kernel
theorem dL_seer_15 : decode cL_seer 15 = .ok (.ireturn, 1) := by decide +kernel
set_option maxRecDepth 20000 in
theorem kb_277_0 : ∀ q ∈ tb_277_0, s_atx 277 yL_seer cL_seer q.1 q.2 := (List.forall_mem_cons.mpr ⟨⟨s_ldAn dL_seer_0 rfl, s_mo_ldA _ _⟩, (List.forall_mem_cons.mpr ⟨⟨s_iconst dL_seer_1 (by decide +kernel), s_mo_push _ _⟩, (List.forall_mem_cons.mpr ⟨⟨s_ldAn dL_seer_2 rfl, s_mo_ldA _ _⟩, (List.forall_mem_cons.mpr ⟨⟨s_sV mk_277 mk_118 ok_118 (by decide +kernel) dL_seer_3 w_948 w_949 w_950 (Or.inr ⟨7, _, _, rfl, rfl⟩), s_h1 mk_277 rfl (by decide) w_491 (by decide +kernel) (Or.inl ⟨2, dL_seer_11, rfl, rfl⟩)⟩, (List.forall_mem_cons.mpr ⟨⟨s_i2l dL_seer_6, s_mo_i2l _⟩, (List.forall_mem_cons.mpr ⟨⟨s_last dL_seer_7, s_mo_last _⟩, (List.forall_mem_cons.mpr ⟨⟨s_goto dL_seer_8 (by decide), s_mo_goto _⟩, (List.forall_mem_cons.mpr ⟨⟨s_iconst dL_seer_12 (by decide +kernel), s_mo_push _ _⟩, (List.forall_mem_cons.mpr ⟨s_r1 mk_277 dL_seer_13, (List.forall_mem_cons.mpr ⟨⟨s_iconst dL_seer_14 (by decide +kernel), s_mo_push _ _⟩, (List.forall_mem_cons.mpr ⟨s_r1 mk_277 dL_seer_15, (fun _ h => absurd h List.not_mem_nil)⟩)⟩)⟩)⟩)⟩)⟩)⟩)⟩)⟩)⟩)⟩)
theorem km_277 : ∀ t ∈ tm_277, s_tok 277 t := (List.forall_mem_cons.mpr ⟨s_lift mk_277 kb_277_0, (fun _ h => absurd h List.not_mem_nil)⟩)
theorem dL_offer_0 : decode cL_offer 0 = .ok (.aload 4, 2) := by decide +kernel
theorem dL_offer_2 : decode cL_offer 2 = .ok (.iconst 0, 1) := by decide +kernel
theorem dL_offer_3 : decode cL_offer 3 = .ok (.aload_n 0, 1) := by decide +kernel
theorem dL_offer_4 : decode cL_offer 4 = .ok (.iload_n 1, 1) := by decide +kernel
theorem dL_offer_5 : decode cL_offer 5 = .ok (.iload_n 2, 1) := by decide +kernel
theorem dL_offer_6 : decode cL_offer 6 = .ok (.iload_n 3, 1) := by decide +kernel
theorem dL_offer_7 : decode cL_offer 7 = .ok (.invokevirtual 65, 3) := by decide +kernel
theorem dL_offer_10 : decode cL_offer 10 = .ok (.i2l, 1) := by decide +kernel
theorem dL_offer_11 : decode cL_offer 11 = .ok (.lastore, 1) := by decide +kernel
theorem dL_offer_12 : decode cL_offer 12 = .ok (.goto 11, 3) := by decide +kernel
theorem dL_offer_15 : decode cL_offer 15 = .ok (.astore 5, 2) := by decide +kernel
theorem dL_offer_17 : decode cL_offer 17 = .ok (.iconst 1, 1) := by decide +kernel
theorem dL_offer_18 : decode cL_offer 18 = .ok (.ireturn, 1) := by decide +kernel
theorem dL_offer_19 : decode cL_offer 19 = .ok (.astore 5, 2) := by decide +kernel
theorem dL_offer_21 : decode cL_offer 21 = .ok (.iconst 2, 1) := by decide +kernel
theorem dL_offer_22 : decode cL_offer 22 = .ok (.ireturn, 1) := by decide +kernel
theorem dL_offer_23 : decode cL_offer 23 = .ok (.iconst 0, 1) := by decide +kernel
theorem dL_offer_24 : decode cL_offer 24 = .ok (.ireturn, 1) := by decide +kernel
set_option maxRecDepth 20000 in
theorem kb_278_0 : ∀ q ∈ tb_278_0, s_atx 278 yL_offer cL_offer q.1 q.2 := (List.forall_mem_cons.mpr ⟨⟨s_ldA dL_offer_0, s_mo_ldA _ _⟩, (List.forall_mem_cons.mpr ⟨⟨s_iconst dL_offer_2 (by decide +kernel), s_mo_push _ _⟩, (List.forall_mem_cons.mpr ⟨⟨s_ldAn dL_offer_3 rfl, s_mo_ldA _ _⟩, (List.forall_mem_cons.mpr ⟨⟨s_ldIn dL_offer_4 rfl, s_mo_ldI _ _⟩, (List.forall_mem_cons.mpr ⟨⟨s_ldIn dL_offer_5 rfl, s_mo_ldI _ _⟩, (List.forall_mem_cons.mpr ⟨⟨s_ldIn dL_offer_6 rfl, s_mo_ldI _ _⟩, (List.forall_mem_cons.mpr ⟨⟨s_sV mk_278 mk_119 ok_119 (by decide +kernel) dL_offer_7 w_955 w_956 w_957 (Or.inr ⟨7, _, _, rfl, rfl⟩), s_h2 mk_278 (by decide) rfl rfl (by decide) (by decide) w_756 w_490 (by decide +kernel) (by decide +kernel) (by decide +kernel) (Or.inr ⟨dL_offer_15, rfl⟩) (Or.inr ⟨dL_offer_19, rfl⟩)⟩, (List.forall_mem_cons.mpr ⟨⟨s_i2l dL_offer_10, s_mo_i2l _⟩, (List.forall_mem_cons.mpr ⟨⟨s_last dL_offer_11, s_mo_last _⟩, (List.forall_mem_cons.mpr ⟨⟨s_goto dL_offer_12 (by decide), s_mo_goto _⟩, (List.forall_mem_cons.mpr ⟨⟨s_iconst dL_offer_17 (by decide +kernel), s_mo_push _ _⟩, (List.forall_mem_cons.mpr ⟨s_r1 mk_278 dL_offer_18, (List.forall_mem_cons.mpr ⟨⟨s_iconst dL_offer_21 (by decide +kernel), s_mo_push _ _⟩, (List.forall_mem_cons.mpr ⟨s_r1 mk_278 dL_offer_22, (List.forall_mem_cons.mpr ⟨⟨s_iconst dL_offer_23 (by decide +kernel), s_mo_push _ _⟩, (List.forall_mem_cons.mpr ⟨s_r1 mk_278 dL_offer_24, (fun _ h => absurd h List.not_mem_nil)⟩)⟩)⟩)⟩)⟩)⟩)⟩)⟩)⟩)⟩)⟩)⟩)⟩)⟩)⟩)⟩)
theorem km_278 : ∀ t ∈ tm_278, s_tok 278 t := (List.forall_mem_cons.mpr ⟨s_lift mk_278 kb_278_0, (fun _ h => absurd h List.not_mem_nil)⟩)
theorem dL_sale_0 : decode cL_sale 0 = .ok (.aload_n 3, 1) := by decide +kernel
theorem dL_sale_1 : decode cL_sale 1 = .ok (.iconst 0, 1) := by decide +kernel
theorem dL_sale_2 : decode cL_sale 2 = .ok (.aload_n 0, 1) := by decide +kernel
theorem dL_sale_3 : decode cL_sale 3 = .ok (.iload_n 1, 1) := by decide +kernel
theorem dL_sale_4 : decode cL_sale 4 = .ok (.iload_n 2, 1) := by decide +kernel
theorem dL_sale_5 : decode cL_sale 5 = .ok (.invokevirtual 68, 3) := by decide +kernel
theorem dL_sale_8 : decode cL_sale 8 = .ok (.i2l, 1) := by decide +kernel
theorem dL_sale_9 : decode cL_sale 9 = .ok (.lastore, 1) := by decide +kernel
theorem dL_sale_10 : decode cL_sale 10 = .ok (.goto 7, 3) := by decide +kernel
theorem dL_sale_13 : decode cL_sale 13 = .ok (.astore 4, 2) := by decide +kernel
theorem dL_sale_15 : decode cL_sale 15 = .ok (.iconst 1, 1) := by decide +kernel
theorem dL_sale_16 : decode cL_sale 16 = .ok (.ireturn, 1) := by decide +kernel
theorem dL_sale_17 : decode cL_sale 17 = .ok (.iconst 0, 1) := by decide +kernel
theorem dL_sale_18 : decode cL_sale 18 = .ok (.ireturn, 1) := by decide +kernel
set_option maxRecDepth 20000 in
theorem kb_279_0 : ∀ q ∈ tb_279_0, s_atx 279 yL_sale cL_sale q.1 q.2 := (List.forall_mem_cons.mpr ⟨⟨s_ldAn dL_sale_0 rfl, s_mo_ldA _ _⟩, (List.forall_mem_cons.mpr ⟨⟨s_iconst dL_sale_1 (by decide +kernel), s_mo_push _ _⟩, (List.forall_mem_cons.mpr ⟨⟨s_ldAn dL_sale_2 rfl, s_mo_ldA _ _⟩, (List.forall_mem_cons.mpr ⟨⟨s_ldIn dL_sale_3 rfl, s_mo_ldI _ _⟩, (List.forall_mem_cons.mpr ⟨⟨s_ldIn dL_sale_4 rfl, s_mo_ldI _ _⟩, (List.forall_mem_cons.mpr ⟨⟨s_sV mk_279 mk_120 ok_120 (by decide +kernel) dL_sale_5 w_966 w_967 w_968 (Or.inr ⟨7, _, _, rfl, rfl⟩), s_h1 mk_279 rfl (by decide) w_756 (by decide +kernel) (Or.inr ⟨dL_sale_13, rfl⟩)⟩, (List.forall_mem_cons.mpr ⟨⟨s_i2l dL_sale_8, s_mo_i2l _⟩, (List.forall_mem_cons.mpr ⟨⟨s_last dL_sale_9, s_mo_last _⟩, (List.forall_mem_cons.mpr ⟨⟨s_goto dL_sale_10 (by decide), s_mo_goto _⟩, (List.forall_mem_cons.mpr ⟨⟨s_iconst dL_sale_15 (by decide +kernel), s_mo_push _ _⟩, (List.forall_mem_cons.mpr ⟨s_r1 mk_279 dL_sale_16, (List.forall_mem_cons.mpr ⟨⟨s_iconst dL_sale_17 (by decide +kernel), s_mo_push _ _⟩, (List.forall_mem_cons.mpr ⟨s_r1 mk_279 dL_sale_18, (fun _ h => absurd h List.not_mem_nil)⟩)⟩)⟩)⟩)⟩)⟩)⟩)⟩)⟩)⟩)⟩)⟩)⟩)
theorem km_279 : ∀ t ∈ tm_279, s_tok 279 t := (List.forall_mem_cons.mpr ⟨s_lift mk_279 kb_279_0, (fun _ h => absurd h List.not_mem_nil)⟩)
theorem dL_lost_0 : decode cL_lost 0 = .ok (.aload_n 3, 1) := by decide +kernel
theorem dL_lost_1 : decode cL_lost 1 = .ok (.iconst 0, 1) := by decide +kernel
theorem dL_lost_2 : decode cL_lost 2 = .ok (.aload_n 0, 1) := by decide +kernel
theorem dL_lost_3 : decode cL_lost 3 = .ok (.iload_n 1, 1) := by decide +kernel
theorem dL_lost_4 : decode cL_lost 4 = .ok (.iload_n 2, 1) := by decide +kernel
theorem dL_lost_5 : decode cL_lost 5 = .ok (.invokevirtual 71, 3) := by decide +kernel
theorem dL_lost_8 : decode cL_lost 8 = .ok (.i2l, 1) := by decide +kernel
theorem dL_lost_9 : decode cL_lost 9 = .ok (.lastore, 1) := by decide +kernel
theorem dL_lost_10 : decode cL_lost 10 = .ok (.goto 7, 3) := by decide +kernel
theorem dL_lost_13 : decode cL_lost 13 = .ok (.astore 4, 2) := by decide +kernel
theorem dL_lost_15 : decode cL_lost 15 = .ok (.iconst 1, 1) := by decide +kernel
theorem dL_lost_16 : decode cL_lost 16 = .ok (.ireturn, 1) := by decide +kernel
theorem dL_lost_17 : decode cL_lost 17 = .ok (.iconst 0, 1) := by decide +kernel
theorem dL_lost_18 : decode cL_lost 18 = .ok (.ireturn, 1) := by decide +kernel
set_option maxRecDepth 20000 in
theorem kb_280_0 : ∀ q ∈ tb_280_0, s_atx 280 yL_lost cL_lost q.1 q.2 := (List.forall_mem_cons.mpr ⟨⟨s_ldAn dL_lost_0 rfl, s_mo_ldA _ _⟩, (List.forall_mem_cons.mpr ⟨⟨s_iconst dL_lost_1 (by decide +kernel), s_mo_push _ _⟩, (List.forall_mem_cons.mpr ⟨⟨s_ldAn dL_lost_2 rfl, s_mo_ldA _ _⟩, (List.forall_mem_cons.mpr ⟨⟨s_ldIn dL_lost_3 rfl, s_mo_ldI _ _⟩, (List.forall_mem_cons.mpr ⟨⟨s_ldIn dL_lost_4 rfl, s_mo_ldI _ _⟩, (List.forall_mem_cons.mpr ⟨⟨s_sV mk_280 mk_121 ok_121 (by decide +kernel) dL_lost_5 w_1010 w_1011 w_1012 (Or.inr ⟨7, _, _, rfl, rfl⟩), s_h1 mk_280 rfl (by decide) w_756 (by decide +kernel) (Or.inr ⟨dL_lost_13, rfl⟩)⟩, (List.forall_mem_cons.mpr ⟨⟨s_i2l dL_lost_8, s_mo_i2l _⟩, (List.forall_mem_cons.mpr ⟨⟨s_last dL_lost_9, s_mo_last _⟩, (List.forall_mem_cons.mpr ⟨⟨s_goto dL_lost_10 (by decide), s_mo_goto _⟩, (List.forall_mem_cons.mpr ⟨⟨s_iconst dL_lost_15 (by decide +kernel), s_mo_push _ _⟩, (List.forall_mem_cons.mpr ⟨s_r1 mk_280 dL_lost_16, (List.forall_mem_cons.mpr ⟨⟨s_iconst dL_lost_17 (by decide +kernel), s_mo_push _ _⟩, (List.forall_mem_cons.mpr ⟨s_r1 mk_280 dL_lost_18, (fun _ h => absurd h List.not_mem_nil)⟩)⟩)⟩)⟩)⟩)⟩)⟩)⟩)⟩)⟩)⟩)⟩)⟩)
theorem km_280 : ∀ t ∈ tm_280, s_tok 280 t := (List.forall_mem_cons.mpr ⟨s_lift mk_280 kb_280_0, (fun _ h => absurd h List.not_mem_nil)⟩)
theorem dL_share_0 : decode cL_share 0 = .ok (.aload 4, 2) := by decide +kernel
theorem dL_share_2 : decode cL_share 2 = .ok (.iconst 0, 1) := by decide +kernel
theorem dL_share_3 : decode cL_share 3 = .ok (.aload_n 0, 1) := by decide +kernel
theorem dL_share_4 : decode cL_share 4 = .ok (.iload_n 1, 1) := by decide +kernel
theorem dL_share_5 : decode cL_share 5 = .ok (.iload_n 2, 1) := by decide +kernel
theorem dL_share_6 : decode cL_share 6 = .ok (.iload_n 3, 1) := by decide +kernel
theorem dL_share_7 : decode cL_share 7 = .ok (.invokevirtual 74, 3) := by decide +kernel
theorem dL_share_10 : decode cL_share 10 = .ok (.i2l, 1) := by decide +kernel
theorem dL_share_11 : decode cL_share 11 = .ok (.lastore, 1) := by decide +kernel
theorem dL_share_12 : decode cL_share 12 = .ok (.goto 11, 3) := by decide +kernel
theorem dL_share_15 : decode cL_share 15 = .ok (.astore 5, 2) := by decide +kernel
theorem dL_share_17 : decode cL_share 17 = .ok (.iconst 1, 1) := by decide +kernel
theorem dL_share_18 : decode cL_share 18 = .ok (.ireturn, 1) := by decide +kernel
theorem dL_share_19 : decode cL_share 19 = .ok (.astore 5, 2) := by decide +kernel
theorem dL_share_21 : decode cL_share 21 = .ok (.iconst 2, 1) := by decide +kernel
theorem dL_share_22 : decode cL_share 22 = .ok (.ireturn, 1) := by decide +kernel
theorem dL_share_23 : decode cL_share 23 = .ok (.iconst 0, 1) := by decide +kernel
theorem dL_share_24 : decode cL_share 24 = .ok (.ireturn, 1) := by decide +kernel
set_option maxRecDepth 20000 in
theorem kb_281_0 : ∀ q ∈ tb_281_0, s_atx 281 yL_share cL_share q.1 q.2 := (List.forall_mem_cons.mpr ⟨⟨s_ldA dL_share_0, s_mo_ldA _ _⟩, (List.forall_mem_cons.mpr ⟨⟨s_iconst dL_share_2 (by decide +kernel), s_mo_push _ _⟩, (List.forall_mem_cons.mpr ⟨⟨s_ldAn dL_share_3 rfl, s_mo_ldA _ _⟩, (List.forall_mem_cons.mpr ⟨⟨s_ldIn dL_share_4 rfl, s_mo_ldI _ _⟩, (List.forall_mem_cons.mpr ⟨⟨s_ldIn dL_share_5 rfl, s_mo_ldI _ _⟩, (List.forall_mem_cons.mpr ⟨⟨s_ldIn dL_share_6 rfl, s_mo_ldI _ _⟩, (List.forall_mem_cons.mpr ⟨⟨s_sV mk_281 mk_122 ok_122 (by decide +kernel) dL_share_7 w_1021 w_1022 w_1023 (Or.inr ⟨7, _, _, rfl, rfl⟩), s_h2 mk_281 (by decide) rfl rfl (by decide) (by decide) w_756 w_490 (by decide +kernel) (by decide +kernel) (by decide +kernel) (Or.inr ⟨dL_share_15, rfl⟩) (Or.inr ⟨dL_share_19, rfl⟩)⟩, (List.forall_mem_cons.mpr ⟨⟨s_i2l dL_share_10, s_mo_i2l _⟩, (List.forall_mem_cons.mpr ⟨⟨s_last dL_share_11, s_mo_last _⟩, (List.forall_mem_cons.mpr ⟨⟨s_goto dL_share_12 (by decide), s_mo_goto _⟩, (List.forall_mem_cons.mpr ⟨⟨s_iconst dL_share_17 (by decide +kernel), s_mo_push _ _⟩, (List.forall_mem_cons.mpr ⟨s_r1 mk_281 dL_share_18, (List.forall_mem_cons.mpr ⟨⟨s_iconst dL_share_21 (by decide +kernel), s_mo_push _ _⟩, (List.forall_mem_cons.mpr ⟨s_r1 mk_281 dL_share_22, (List.forall_mem_cons.mpr ⟨⟨s_iconst dL_share_23 (by decide +kernel), s_mo_push _ _⟩, (List.forall_mem_cons.mpr ⟨s_r1 mk_281 dL_share_24, (fun _ h => absurd h List.not_mem_nil)⟩)⟩)⟩)⟩)⟩)⟩)⟩)⟩)⟩)⟩)⟩)⟩)⟩)⟩)⟩)⟩)
theorem km_281 : ∀ t ∈ tm_281, s_tok 281 t := (List.forall_mem_cons.mpr ⟨s_lift mk_281 kb_281_0, (fun _ h => absurd h List.not_mem_nil)⟩)
theorem dL_weakest_0 : decode cL_weakest 0 = .ok (.aload_n 2, 1) := by decide +kernel
theorem dL_weakest_1 : decode cL_weakest 1 = .ok (.iconst 0, 1) := by decide +kernel
theorem dL_weakest_2 : decode cL_weakest 2 = .ok (.aload_n 0, 1) := by decide +kernel
theorem dL_weakest_3 : decode cL_weakest 3 = .ok (.iload_n 1, 1) := by decide +kernel
theorem dL_weakest_4 : decode cL_weakest 4 = .ok (.invokevirtual 77, 3) := by decide +kernel
theorem dL_weakest_7 : decode cL_weakest 7 = .ok (.i2l, 1) := by decide +kernel
theorem dL_weakest_8 : decode cL_weakest 8 = .ok (.lastore, 1) := by decide +kernel
theorem dL_weakest_9 : decode cL_weakest 9 = .ok (.goto 6, 3) := by decide +kernel
theorem dL_weakest_12 : decode cL_weakest 12 = .ok (.astore_n 3, 1) := by decide +kernel
theorem dL_weakest_13 : decode cL_weakest 13 = .ok (.iconst 1, 1) := by decide +kernel
theorem dL_weakest_14 : decode cL_weakest 14 = .ok (.ireturn, 1) := by decide +kernel
theorem dL_weakest_15 : decode cL_weakest 15 = .ok (.iconst 0, 1) := by decide +kernel
theorem dL_weakest_16 : decode cL_weakest 16 = .ok (.ireturn, 1) := by decide +kernel
set_option maxRecDepth 20000 in
theorem kb_282_0 : ∀ q ∈ tb_282_0, s_atx 282 yL_weakest cL_weakest q.1 q.2 := (List.forall_mem_cons.mpr ⟨⟨s_ldAn dL_weakest_0 rfl, s_mo_ldA _ _⟩, (List.forall_mem_cons.mpr ⟨⟨s_iconst dL_weakest_1 (by decide +kernel), s_mo_push _ _⟩, (List.forall_mem_cons.mpr ⟨⟨s_ldAn dL_weakest_2 rfl, s_mo_ldA _ _⟩, (List.forall_mem_cons.mpr ⟨⟨s_ldIn dL_weakest_3 rfl, s_mo_ldI _ _⟩, (List.forall_mem_cons.mpr ⟨⟨s_sV mk_282 mk_123 ok_123 (by decide +kernel) dL_weakest_4 w_1040 w_1041 w_1042 (Or.inr ⟨7, _, _, rfl, rfl⟩), s_h1 mk_282 rfl (by decide) w_756 (by decide +kernel) (Or.inl ⟨3, dL_weakest_12, rfl, rfl⟩)⟩, (List.forall_mem_cons.mpr ⟨⟨s_i2l dL_weakest_7, s_mo_i2l _⟩, (List.forall_mem_cons.mpr ⟨⟨s_last dL_weakest_8, s_mo_last _⟩, (List.forall_mem_cons.mpr ⟨⟨s_goto dL_weakest_9 (by decide), s_mo_goto _⟩, (List.forall_mem_cons.mpr ⟨⟨s_iconst dL_weakest_13 (by decide +kernel), s_mo_push _ _⟩, (List.forall_mem_cons.mpr ⟨s_r1 mk_282 dL_weakest_14, (List.forall_mem_cons.mpr ⟨⟨s_iconst dL_weakest_15 (by decide +kernel), s_mo_push _ _⟩, (List.forall_mem_cons.mpr ⟨s_r1 mk_282 dL_weakest_16, (fun _ h => absurd h List.not_mem_nil)⟩)⟩)⟩)⟩)⟩)⟩)⟩)⟩)⟩)⟩)⟩)⟩)
theorem km_282 : ∀ t ∈ tm_282, s_tok 282 t := (List.forall_mem_cons.mpr ⟨s_lift mk_282 kb_282_0, (fun _ h => absurd h List.not_mem_nil)⟩)
theorem dL_strengthen_0 : decode cL_strengthen 0 = .ok (.aload 5, 2) := by decide +kernel
theorem dL_strengthen_2 : decode cL_strengthen 2 = .ok (.iconst 0, 1) := by decide +kernel
theorem dL_strengthen_3 : decode cL_strengthen 3 = .ok (.aload_n 0, 1) := by decide +kernel
theorem dL_strengthen_4 : decode cL_strengthen 4 = .ok (.iload_n 1, 1) := by decide +kernel
theorem dL_strengthen_5 : decode cL_strengthen 5 = .ok (.iload_n 2, 1) := by decide +kernel
theorem dL_strengthen_6 : decode cL_strengthen 6 = .ok (.iload_n 3, 1) := by decide +kernel
theorem dL_strengthen_7 : decode cL_strengthen 7 = .ok (.iload 4, 2) := by decide +kernel
theorem dL_strengthen_9 : decode cL_strengthen 9 = .ok (.invokevirtual 80, 3) := by decide +kernel
theorem dL_strengthen_12 : decode cL_strengthen 12 = .ok (.i2l, 1) := by decide +kernel
theorem dL_strengthen_13 : decode cL_strengthen 13 = .ok (.lastore, 1) := by decide +kernel
theorem dL_strengthen_14 : decode cL_strengthen 14 = .ok (.goto 11, 3) := by decide +kernel
theorem dL_strengthen_17 : decode cL_strengthen 17 = .ok (.astore 6, 2) := by decide +kernel
theorem dL_strengthen_19 : decode cL_strengthen 19 = .ok (.iconst 1, 1) := by decide +kernel
theorem dL_strengthen_20 : decode cL_strengthen 20 = .ok (.ireturn, 1) := by decide +kernel
theorem dL_strengthen_21 : decode cL_strengthen 21 = .ok (.astore 6, 2) := by decide +kernel
theorem dL_strengthen_23 : decode cL_strengthen 23 = .ok (.iconst 2, 1) := by decide +kernel
theorem dL_strengthen_24 : decode cL_strengthen 24 = .ok (.ireturn, 1) := by decide +kernel
theorem dL_strengthen_25 : decode cL_strengthen 25 = .ok (.iconst 0, 1) := by decide +kernel
theorem dL_strengthen_26 : decode cL_strengthen 26 = .ok (.ireturn, 1) := by decide +kernel
set_option maxRecDepth 20000 in
theorem kb_283_0 : ∀ q ∈ tb_283_0, s_atx 283 yL_strengthen cL_strengthen q.1 q.2 := (List.forall_mem_cons.mpr ⟨⟨s_ldA dL_strengthen_0, s_mo_ldA _ _⟩, (List.forall_mem_cons.mpr ⟨⟨s_iconst dL_strengthen_2 (by decide +kernel), s_mo_push _ _⟩, (List.forall_mem_cons.mpr ⟨⟨s_ldAn dL_strengthen_3 rfl, s_mo_ldA _ _⟩, (List.forall_mem_cons.mpr ⟨⟨s_ldIn dL_strengthen_4 rfl, s_mo_ldI _ _⟩, (List.forall_mem_cons.mpr ⟨⟨s_ldIn dL_strengthen_5 rfl, s_mo_ldI _ _⟩, (List.forall_mem_cons.mpr ⟨⟨s_ldIn dL_strengthen_6 rfl, s_mo_ldI _ _⟩, (List.forall_mem_cons.mpr ⟨⟨s_ldI dL_strengthen_7, s_mo_ldI _ _⟩, (List.forall_mem_cons.mpr ⟨⟨s_sV mk_283 mk_124 ok_124 (by decide +kernel) dL_strengthen_9 w_1047 w_1048 w_1049 (Or.inr ⟨7, _, _, rfl, rfl⟩), s_h2 mk_283 (by decide) rfl rfl (by decide) (by decide) w_756 w_490 (by decide +kernel) (by decide +kernel) (by decide +kernel) (Or.inr ⟨dL_strengthen_17, rfl⟩) (Or.inr ⟨dL_strengthen_21, rfl⟩)⟩, (List.forall_mem_cons.mpr ⟨⟨s_i2l dL_strengthen_12, s_mo_i2l _⟩, (List.forall_mem_cons.mpr ⟨⟨s_last dL_strengthen_13, s_mo_last _⟩, (List.forall_mem_cons.mpr ⟨⟨s_goto dL_strengthen_14 (by decide), s_mo_goto _⟩, (List.forall_mem_cons.mpr ⟨⟨s_iconst dL_strengthen_19 (by decide +kernel), s_mo_push _ _⟩, (List.forall_mem_cons.mpr ⟨s_r1 mk_283 dL_strengthen_20, (List.forall_mem_cons.mpr ⟨⟨s_iconst dL_strengthen_23 (by decide +kernel), s_mo_push _ _⟩, (List.forall_mem_cons.mpr ⟨s_r1 mk_283 dL_strengthen_24, (List.forall_mem_cons.mpr ⟨⟨s_iconst dL_strengthen_25 (by decide +kernel), s_mo_push _ _⟩, (List.forall_mem_cons.mpr ⟨s_r1 mk_283 dL_strengthen_26, (fun _ h => absurd h List.not_mem_nil)⟩)⟩)⟩)⟩)⟩)⟩)⟩)⟩)⟩)⟩)⟩)⟩)⟩)⟩)⟩)⟩)⟩)
theorem km_283 : ∀ t ∈ tm_283, s_tok 283 t := (List.forall_mem_cons.mpr ⟨s_lift mk_283 kb_283_0, (fun _ h => absurd h List.not_mem_nil)⟩)
theorem dL_blow_0 : decode cL_blow 0 = .ok (.aload_n 3, 1) := by decide +kernel
theorem dL_blow_1 : decode cL_blow 1 = .ok (.iconst 0, 1) := by decide +kernel
theorem dL_blow_2 : decode cL_blow 2 = .ok (.aload_n 0, 1) := by decide +kernel
theorem dL_blow_3 : decode cL_blow 3 = .ok (.iload_n 1, 1) := by decide +kernel
theorem dL_blow_4 : decode cL_blow 4 = .ok (.iload_n 2, 1) := by decide +kernel
theorem dL_blow_5 : decode cL_blow 5 = .ok (.invokevirtual 84, 3) := by decide +kernel
theorem dL_blow_8 : decode cL_blow 8 = .ok (.i2l, 1) := by decide +kernel
theorem dL_blow_9 : decode cL_blow 9 = .ok (.lastore, 1) := by decide +kernel
theorem dL_blow_10 : decode cL_blow 10 = .ok (.goto 11, 3) := by decide +kernel
theorem dL_blow_13 : decode cL_blow 13 = .ok (.astore 4, 2) := by decide +kernel
theorem dL_blow_15 : decode cL_blow 15 = .ok (.iconst 1, 1) := by decide +kernel
theorem dL_blow_16 : decode cL_blow 16 = .ok (.ireturn, 1) := by decide +kernel
theorem dL_blow_17 : decode cL_blow 17 = .ok (.astore 4, 2) := by decide +kernel
theorem dL_blow_19 : decode cL_blow 19 = .ok (.iconst 2, 1) := by decide +kernel
theorem dL_blow_20 : decode cL_blow 20 = .ok (.ireturn, 1) := by decide +kernel
theorem dL_blow_21 : decode cL_blow 21 = .ok (.iconst 0, 1) := by decide +kernel
theorem dL_blow_22 : decode cL_blow 22 = .ok (.ireturn, 1) := by decide +kernel
set_option maxRecDepth 20000 in
theorem kb_284_0 : ∀ q ∈ tb_284_0, s_atx 284 yL_blow cL_blow q.1 q.2 := (List.forall_mem_cons.mpr ⟨⟨s_ldAn dL_blow_0 rfl, s_mo_ldA _ _⟩, (List.forall_mem_cons.mpr ⟨⟨s_iconst dL_blow_1 (by decide +kernel), s_mo_push _ _⟩, (List.forall_mem_cons.mpr ⟨⟨s_ldAn dL_blow_2 rfl, s_mo_ldA _ _⟩, (List.forall_mem_cons.mpr ⟨⟨s_ldIn dL_blow_3 rfl, s_mo_ldI _ _⟩, (List.forall_mem_cons.mpr ⟨⟨s_ldIn dL_blow_4 rfl, s_mo_ldI _ _⟩, (List.forall_mem_cons.mpr ⟨⟨s_sV mk_284 mk_126 ok_126 (by decide +kernel) dL_blow_5 w_1091 w_1092 w_1093 (Or.inr ⟨7, _, _, rfl, rfl⟩), s_h2 mk_284 (by decide) rfl rfl (by decide) (by decide) w_756 w_490 (by decide +kernel) (by decide +kernel) (by decide +kernel) (Or.inr ⟨dL_blow_13, rfl⟩) (Or.inr ⟨dL_blow_17, rfl⟩)⟩, (List.forall_mem_cons.mpr ⟨⟨s_i2l dL_blow_8, s_mo_i2l _⟩, (List.forall_mem_cons.mpr ⟨⟨s_last dL_blow_9, s_mo_last _⟩, (List.forall_mem_cons.mpr ⟨⟨s_goto dL_blow_10 (by decide), s_mo_goto _⟩, (List.forall_mem_cons.mpr ⟨⟨s_iconst dL_blow_15 (by decide +kernel), s_mo_push _ _⟩, (List.forall_mem_cons.mpr ⟨s_r1 mk_284 dL_blow_16, (List.forall_mem_cons.mpr ⟨⟨s_iconst dL_blow_19 (by decide +kernel), s_mo_push _ _⟩, (List.forall_mem_cons.mpr ⟨s_r1 mk_284 dL_blow_20, (List.forall_mem_cons.mpr ⟨⟨s_iconst dL_blow_21 (by decide +kernel), s_mo_push _ _⟩, (List.forall_mem_cons.mpr ⟨s_r1 mk_284 dL_blow_22, (fun _ h => absurd h List.not_mem_nil)⟩)⟩)⟩)⟩)⟩)⟩)⟩)⟩)⟩)⟩)⟩)⟩)⟩)⟩)⟩)
theorem km_284 : ∀ t ∈ tm_284, s_tok 284 t := (List.forall_mem_cons.mpr ⟨s_lift mk_284 kb_284_0, (fun _ h => absurd h List.not_mem_nil)⟩)
theorem dL_would_0 : decode cL_would 0 = .ok (.aload_n 3, 1) := by decide +kernel
theorem dL_would_1 : decode cL_would 1 = .ok (.iconst 0, 1) := by decide +kernel
theorem dL_would_2 : decode cL_would 2 = .ok (.aload_n 0, 1) := by decide +kernel
theorem dL_would_3 : decode cL_would 3 = .ok (.iload_n 1, 1) := by decide +kernel
theorem dL_would_4 : decode cL_would 4 = .ok (.iload_n 2, 1) := by decide +kernel
theorem dL_would_5 : decode cL_would 5 = .ok (.invokevirtual 87, 3) := by decide +kernel
theorem dL_would_8 : decode cL_would 8 = .ok (.i2l, 1) := by decide +kernel
theorem dL_would_9 : decode cL_would 9 = .ok (.lastore, 1) := by decide +kernel
theorem dL_would_10 : decode cL_would 10 = .ok (.goto 11, 3) := by decide +kernel
theorem dL_would_13 : decode cL_would 13 = .ok (.astore 4, 2) := by decide +kernel
theorem dL_would_15 : decode cL_would 15 = .ok (.iconst 1, 1) := by decide +kernel
theorem dL_would_16 : decode cL_would 16 = .ok (.ireturn, 1) := by decide +kernel
theorem dL_would_17 : decode cL_would 17 = .ok (.astore 4, 2) := by decide +kernel
theorem dL_would_19 : decode cL_would 19 = .ok (.iconst 2, 1) := by decide +kernel
theorem dL_would_20 : decode cL_would 20 = .ok (.ireturn, 1) := by decide +kernel
theorem dL_would_21 : decode cL_would 21 = .ok (.iconst 0, 1) := by decide +kernel
theorem dL_would_22 : decode cL_would 22 = .ok (.ireturn, 1) := by decide +kernel
set_option maxRecDepth 20000 in
theorem kb_285_0 : ∀ q ∈ tb_285_0, s_atx 285 yL_would cL_would q.1 q.2 := (List.forall_mem_cons.mpr ⟨⟨s_ldAn dL_would_0 rfl, s_mo_ldA _ _⟩, (List.forall_mem_cons.mpr ⟨⟨s_iconst dL_would_1 (by decide +kernel), s_mo_push _ _⟩, (List.forall_mem_cons.mpr ⟨⟨s_ldAn dL_would_2 rfl, s_mo_ldA _ _⟩, (List.forall_mem_cons.mpr ⟨⟨s_ldIn dL_would_3 rfl, s_mo_ldI _ _⟩, (List.forall_mem_cons.mpr ⟨⟨s_ldIn dL_would_4 rfl, s_mo_ldI _ _⟩, (List.forall_mem_cons.mpr ⟨⟨s_sV mk_285 mk_127 ok_127 (by decide +kernel) dL_would_5 w_1111 w_1112 w_1113 (Or.inr ⟨7, _, _, rfl, rfl⟩), s_h2 mk_285 (by decide) rfl rfl (by decide) (by decide) w_756 w_490 (by decide +kernel) (by decide +kernel) (by decide +kernel) (Or.inr ⟨dL_would_13, rfl⟩) (Or.inr ⟨dL_would_17, rfl⟩)⟩, (List.forall_mem_cons.mpr ⟨⟨s_i2l dL_would_8, s_mo_i2l _⟩, (List.forall_mem_cons.mpr ⟨⟨s_last dL_would_9, s_mo_last _⟩, (List.forall_mem_cons.mpr ⟨⟨s_goto dL_would_10 (by decide), s_mo_goto _⟩, (List.forall_mem_cons.mpr ⟨⟨s_iconst dL_would_15 (by decide +kernel), s_mo_push _ _⟩, (List.forall_mem_cons.mpr ⟨s_r1 mk_285 dL_would_16, (List.forall_mem_cons.mpr ⟨⟨s_iconst dL_would_19 (by decide +kernel), s_mo_push _ _⟩, (List.forall_mem_cons.mpr ⟨s_r1 mk_285 dL_would_20, (List.forall_mem_cons.mpr ⟨⟨s_iconst dL_would_21 (by decide +kernel), s_mo_push _ _⟩, (List.forall_mem_cons.mpr ⟨s_r1 mk_285 dL_would_22, (fun _ h => absurd h List.not_mem_nil)⟩)⟩)⟩)⟩)⟩)⟩)⟩)⟩)⟩)⟩)⟩)⟩)⟩)⟩)⟩)
theorem km_285 : ∀ t ∈ tm_285, s_tok 285 t := (List.forall_mem_cons.mpr ⟨s_lift mk_285 kb_285_0, (fun _ h => absurd h List.not_mem_nil)⟩)
theorem dL_trace_0 : decode cL_trace 0 = .ok (.aload 4, 2) := by decide +kernel
theorem dL_trace_2 : decode cL_trace 2 = .ok (.iconst 0, 1) := by decide +kernel
theorem dL_trace_3 : decode cL_trace 3 = .ok (.aload_n 0, 1) := by decide +kernel
theorem dL_trace_4 : decode cL_trace 4 = .ok (.iload_n 1, 1) := by decide +kernel
theorem dL_trace_5 : decode cL_trace 5 = .ok (.iload_n 2, 1) := by decide +kernel
theorem dL_trace_6 : decode cL_trace 6 = .ok (.iload_n 3, 1) := by decide +kernel
theorem dL_trace_7 : decode cL_trace 7 = .ok (.invokevirtual 90, 3) := by decide +kernel
theorem dL_trace_10 : decode cL_trace 10 = .ok (.i2l, 1) := by decide +kernel
theorem dL_trace_11 : decode cL_trace 11 = .ok (.lastore, 1) := by decide +kernel
theorem dL_trace_12 : decode cL_trace 12 = .ok (.goto 7, 3) := by decide +kernel
theorem dL_trace_15 : decode cL_trace 15 = .ok (.astore 5, 2) := by decide +kernel
theorem dL_trace_17 : decode cL_trace 17 = .ok (.iconst 1, 1) := by decide +kernel
theorem dL_trace_18 : decode cL_trace 18 = .ok (.ireturn, 1) := by decide +kernel
theorem dL_trace_19 : decode cL_trace 19 = .ok (.iconst 0, 1) := by decide +kernel
theorem dL_trace_20 : decode cL_trace 20 = .ok (.ireturn, 1) := by decide +kernel
set_option maxRecDepth 20000 in
theorem kb_286_0 : ∀ q ∈ tb_286_0, s_atx 286 yL_trace cL_trace q.1 q.2 := (List.forall_mem_cons.mpr ⟨⟨s_ldA dL_trace_0, s_mo_ldA _ _⟩, (List.forall_mem_cons.mpr ⟨⟨s_iconst dL_trace_2 (by decide +kernel), s_mo_push _ _⟩, (List.forall_mem_cons.mpr ⟨⟨s_ldAn dL_trace_3 rfl, s_mo_ldA _ _⟩, (List.forall_mem_cons.mpr ⟨⟨s_ldIn dL_trace_4 rfl, s_mo_ldI _ _⟩, (List.forall_mem_cons.mpr ⟨⟨s_ldIn dL_trace_5 rfl, s_mo_ldI _ _⟩, (List.forall_mem_cons.mpr ⟨⟨s_ldIn dL_trace_6 rfl, s_mo_ldI _ _⟩, (List.forall_mem_cons.mpr ⟨⟨s_sV mk_286 mk_128 ok_128 (by decide +kernel) dL_trace_7 w_1118 w_1119 w_1120 (Or.inr ⟨7, _, _, rfl, rfl⟩), s_h1 mk_286 rfl (by decide) w_490 (by decide +kernel) (Or.inr ⟨dL_trace_15, rfl⟩)⟩, (List.forall_mem_cons.mpr ⟨⟨s_i2l dL_trace_10, s_mo_i2l _⟩, (List.forall_mem_cons.mpr ⟨⟨s_last dL_trace_11, s_mo_last _⟩, (List.forall_mem_cons.mpr ⟨⟨s_goto dL_trace_12 (by decide), s_mo_goto _⟩, (List.forall_mem_cons.mpr ⟨⟨s_iconst dL_trace_17 (by decide +kernel), s_mo_push _ _⟩, (List.forall_mem_cons.mpr ⟨s_r1 mk_286 dL_trace_18, (List.forall_mem_cons.mpr ⟨⟨s_iconst dL_trace_19 (by decide +kernel), s_mo_push _ _⟩, (List.forall_mem_cons.mpr ⟨s_r1 mk_286 dL_trace_20, (fun _ h => absurd h List.not_mem_nil)⟩)⟩)⟩)⟩)⟩)⟩)⟩)⟩)⟩)⟩)⟩)⟩)⟩)⟩)
theorem km_286 : ∀ t ∈ tm_286, s_tok 286 t := (List.forall_mem_cons.mpr ⟨s_lift mk_286 kb_286_0, (fun _ h => absurd h List.not_mem_nil)⟩)
theorem dL_parade_0 : decode cL_parade 0 = .ok (.aload 6, 2) := by decide +kernel
theorem dL_parade_2 : decode cL_parade 2 = .ok (.iconst 0, 1) := by decide +kernel
theorem dL_parade_3 : decode cL_parade 3 = .ok (.aload_n 0, 1) := by decide +kernel
theorem dL_parade_4 : decode cL_parade 4 = .ok (.iload_n 1, 1) := by decide +kernel
theorem dL_parade_5 : decode cL_parade 5 = .ok (.iload_n 2, 1) := by decide +kernel
theorem dL_parade_6 : decode cL_parade 6 = .ok (.iload_n 3, 1) := by decide +kernel
theorem dL_parade_7 : decode cL_parade 7 = .ok (.iload 4, 2) := by decide +kernel
theorem dL_parade_9 : decode cL_parade 9 = .ok (.iload 5, 2) := by decide +kernel
theorem dL_parade_11 : decode cL_parade 11 = .ok (.invokevirtual 94, 3) := by decide +kernel
theorem dL_parade_14 : decode cL_parade 14 = .ok (.i2l, 1) := by decide +kernel
theorem dL_parade_15 : decode cL_parade 15 = .ok (.lastore, 1) := by decide +kernel
theorem dL_parade_16 : decode cL_parade 16 = .ok (.goto 11, 3) := by decide +kernel
theorem dL_parade_19 : decode cL_parade 19 = .ok (.astore 7, 2) := by decide +kernel
theorem dL_parade_21 : decode cL_parade 21 = .ok (.iconst 1, 1) := by decide +kernel
theorem dL_parade_22 : decode cL_parade 22 = .ok (.ireturn, 1) := by decide +kernel
theorem dL_parade_23 : decode cL_parade 23 = .ok (.astore 7, 2) := by decide +kernel
theorem dL_parade_25 : decode cL_parade 25 = .ok (.iconst 2, 1) := by decide +kernel
theorem dL_parade_26 : decode cL_parade 26 = .ok (.ireturn, 1) := by decide +kernel
theorem dL_parade_27 : decode cL_parade 27 = .ok (.iconst 0, 1) := by decide +kernel
theorem dL_parade_28 : decode cL_parade 28 = .ok (.ireturn, 1) := by decide +kernel
set_option maxRecDepth 20000 in
theorem kb_287_0 : ∀ q ∈ tb_287_0, s_atx 287 yL_parade cL_parade q.1 q.2 := (List.forall_mem_cons.mpr ⟨⟨s_ldA dL_parade_0, s_mo_ldA _ _⟩, (List.forall_mem_cons.mpr ⟨⟨s_iconst dL_parade_2 (by decide +kernel), s_mo_push _ _⟩, (List.forall_mem_cons.mpr ⟨⟨s_ldAn dL_parade_3 rfl, s_mo_ldA _ _⟩, (List.forall_mem_cons.mpr ⟨⟨s_ldIn dL_parade_4 rfl, s_mo_ldI _ _⟩, (List.forall_mem_cons.mpr ⟨⟨s_ldIn dL_parade_5 rfl, s_mo_ldI _ _⟩, (List.forall_mem_cons.mpr ⟨⟨s_ldIn dL_parade_6 rfl, s_mo_ldI _ _⟩, (List.forall_mem_cons.mpr ⟨⟨s_ldI dL_parade_7, s_mo_ldI _ _⟩, (List.forall_mem_cons.mpr ⟨⟨s_ldI dL_parade_9, s_mo_ldI _ _⟩, (List.forall_mem_cons.mpr ⟨⟨s_sV mk_287 mk_129 ok_129 (by decide +kernel) dL_parade_11 w_1138 w_1139 w_1140 (Or.inr ⟨7, _, _, rfl, rfl⟩), s_h2 mk_287 (by decide) rfl rfl (by decide) (by decide) w_756 w_490 (by decide +kernel) (by decide +kernel) (by decide +kernel) (Or.inr ⟨dL_parade_19, rfl⟩) (Or.inr ⟨dL_parade_23, rfl⟩)⟩, (List.forall_mem_cons.mpr ⟨⟨s_i2l dL_parade_14, s_mo_i2l _⟩, (List.forall_mem_cons.mpr ⟨⟨s_last dL_parade_15, s_mo_last _⟩, (List.forall_mem_cons.mpr ⟨⟨s_goto dL_parade_16 (by decide), s_mo_goto _⟩, (List.forall_mem_cons.mpr ⟨⟨s_iconst dL_parade_21 (by decide +kernel), s_mo_push _ _⟩, (List.forall_mem_cons.mpr ⟨s_r1 mk_287 dL_parade_22, (List.forall_mem_cons.mpr ⟨⟨s_iconst dL_parade_25 (by decide +kernel), s_mo_push _ _⟩, (List.forall_mem_cons.mpr ⟨s_r1 mk_287 dL_parade_26, (List.forall_mem_cons.mpr ⟨⟨s_iconst dL_parade_27 (by decide +kernel), s_mo_push _ _⟩, (List.forall_mem_cons.mpr ⟨s_r1 mk_287 dL_parade_28, (fun _ h => absurd h List.not_mem_nil)⟩)⟩)⟩)⟩)⟩)⟩)⟩)⟩)⟩)⟩)⟩)⟩)⟩)⟩)⟩)⟩)⟩)⟩)
theorem km_287 : ∀ t ∈ tm_287, s_tok 287 t := (List.forall_mem_cons.mpr ⟨s_lift mk_287 kb_287_0, (fun _ h => absurd h List.not_mem_nil)⟩)
theorem dL_heaviest_0 : decode cL_heaviest 0 = .ok (.aload 4, 2) := by decide +kernel
theorem dL_heaviest_2 : decode cL_heaviest 2 = .ok (.iconst 0, 1) := by decide +kernel
theorem dL_heaviest_3 : decode cL_heaviest 3 = .ok (.aload_n 0, 1) := by decide +kernel
theorem dL_heaviest_4 : decode cL_heaviest 4 = .ok (.iload_n 1, 1) := by decide +kernel
theorem dL_heaviest_5 : decode cL_heaviest 5 = .ok (.iload_n 2, 1) := by decide +kernel
theorem dL_heaviest_6 : decode cL_heaviest 6 = .ok (.iload_n 3, 1) := by decide +kernel
theorem dL_heaviest_7 : decode cL_heaviest 7 = .ok (.invokevirtual 98, 3) := by decide +kernel
theorem dL_heaviest_10 : decode cL_heaviest 10 = .ok (.i2l, 1) := by decide +kernel
theorem dL_heaviest_11 : decode cL_heaviest 11 = .ok (.lastore, 1) := by decide +kernel
theorem dL_heaviest_12 : decode cL_heaviest 12 = .ok (.goto 7, 3) := by decide +kernel
theorem dL_heaviest_15 : decode cL_heaviest 15 = .ok (.astore 5, 2) := by decide +kernel
theorem dL_heaviest_17 : decode cL_heaviest 17 = .ok (.iconst 1, 1) := by decide +kernel
theorem dL_heaviest_18 : decode cL_heaviest 18 = .ok (.ireturn, 1) := by decide +kernel
theorem dL_heaviest_19 : decode cL_heaviest 19 = .ok (.iconst 0, 1) := by decide +kernel
theorem dL_heaviest_20 : decode cL_heaviest 20 = .ok (.ireturn, 1) := by decide +kernel
set_option maxRecDepth 20000 in
theorem kb_288_0 : ∀ q ∈ tb_288_0, s_atx 288 yL_heaviest cL_heaviest q.1 q.2 := (List.forall_mem_cons.mpr ⟨⟨s_ldA dL_heaviest_0, s_mo_ldA _ _⟩, (List.forall_mem_cons.mpr ⟨⟨s_iconst dL_heaviest_2 (by decide +kernel), s_mo_push _ _⟩, (List.forall_mem_cons.mpr ⟨⟨s_ldAn dL_heaviest_3 rfl, s_mo_ldA _ _⟩, (List.forall_mem_cons.mpr ⟨⟨s_ldIn dL_heaviest_4 rfl, s_mo_ldI _ _⟩, (List.forall_mem_cons.mpr ⟨⟨s_ldIn dL_heaviest_5 rfl, s_mo_ldI _ _⟩, (List.forall_mem_cons.mpr ⟨⟨s_ldIn dL_heaviest_6 rfl, s_mo_ldI _ _⟩, (List.forall_mem_cons.mpr ⟨⟨s_sV mk_288 mk_130 ok_130 (by decide +kernel) dL_heaviest_7 w_1157 w_1158 w_1159 (Or.inr ⟨7, _, _, rfl, rfl⟩), s_h1 mk_288 rfl (by decide) w_756 (by decide +kernel) (Or.inr ⟨dL_heaviest_15, rfl⟩)⟩, (List.forall_mem_cons.mpr ⟨⟨s_i2l dL_heaviest_10, s_mo_i2l _⟩, (List.forall_mem_cons.mpr ⟨⟨s_last dL_heaviest_11, s_mo_last _⟩, (List.forall_mem_cons.mpr ⟨⟨s_goto dL_heaviest_12 (by decide), s_mo_goto _⟩, (List.forall_mem_cons.mpr ⟨⟨s_iconst dL_heaviest_17 (by decide +kernel), s_mo_push _ _⟩, (List.forall_mem_cons.mpr ⟨s_r1 mk_288 dL_heaviest_18, (List.forall_mem_cons.mpr ⟨⟨s_iconst dL_heaviest_19 (by decide +kernel), s_mo_push _ _⟩, (List.forall_mem_cons.mpr ⟨s_r1 mk_288 dL_heaviest_20, (fun _ h => absurd h List.not_mem_nil)⟩)⟩)⟩)⟩)⟩)⟩)⟩)⟩)⟩)⟩)⟩)⟩)⟩)⟩)
theorem km_288 : ∀ t ∈ tm_288, s_tok 288 t := (List.forall_mem_cons.mpr ⟨s_lift mk_288 kb_288_0, (fun _ h => absurd h List.not_mem_nil)⟩)
theorem dL_frost_0 : decode cL_frost 0 = .ok (.aload_n 3, 1) := by decide +kernel
theorem dL_frost_1 : decode cL_frost 1 = .ok (.iconst 0, 1) := by decide +kernel
theorem dL_frost_2 : decode cL_frost 2 = .ok (.aload_n 0, 1) := by decide +kernel
theorem dL_frost_3 : decode cL_frost 3 = .ok (.iload_n 1, 1) := by decide +kernel
theorem dL_frost_4 : decode cL_frost 4 = .ok (.iload_n 2, 1) := by decide +kernel
theorem dL_frost_5 : decode cL_frost 5 = .ok (.invokevirtual 101, 3) := by decide +kernel
theorem dL_frost_8 : decode cL_frost 8 = .ok (.i2l, 1) := by decide +kernel
theorem dL_frost_9 : decode cL_frost 9 = .ok (.lastore, 1) := by decide +kernel
theorem dL_frost_10 : decode cL_frost 10 = .ok (.goto 7, 3) := by decide +kernel
theorem dL_frost_13 : decode cL_frost 13 = .ok (.astore 4, 2) := by decide +kernel
theorem dL_frost_15 : decode cL_frost 15 = .ok (.iconst 1, 1) := by decide +kernel
theorem dL_frost_16 : decode cL_frost 16 = .ok (.ireturn, 1) := by decide +kernel
theorem dL_frost_17 : decode cL_frost 17 = .ok (.iconst 0, 1) := by decide +kernel
theorem dL_frost_18 : decode cL_frost 18 = .ok (.ireturn, 1) := by decide +kernel
set_option maxRecDepth 20000 in
theorem kb_289_0 : ∀ q ∈ tb_289_0, s_atx 289 yL_frost cL_frost q.1 q.2 := (List.forall_mem_cons.mpr ⟨⟨s_ldAn dL_frost_0 rfl, s_mo_ldA _ _⟩, (List.forall_mem_cons.mpr ⟨⟨s_iconst dL_frost_1 (by decide +kernel), s_mo_push _ _⟩, (List.forall_mem_cons.mpr ⟨⟨s_ldAn dL_frost_2 rfl, s_mo_ldA _ _⟩, (List.forall_mem_cons.mpr ⟨⟨s_ldIn dL_frost_3 rfl, s_mo_ldI _ _⟩, (List.forall_mem_cons.mpr ⟨⟨s_ldIn dL_frost_4 rfl, s_mo_ldI _ _⟩, (List.forall_mem_cons.mpr ⟨⟨s_sV mk_289 mk_131 ok_131 (by decide +kernel) dL_frost_5 w_1169 w_1170 w_1171 (Or.inr ⟨7, _, _, rfl, rfl⟩), s_h1 mk_289 rfl (by decide) w_490 (by decide +kernel) (Or.inr ⟨dL_frost_13, rfl⟩)⟩, (List.forall_mem_cons.mpr ⟨⟨s_i2l dL_frost_8, s_mo_i2l _⟩, (List.forall_mem_cons.mpr ⟨⟨s_last dL_frost_9, s_mo_last _⟩, (List.forall_mem_cons.mpr ⟨⟨s_goto dL_frost_10 (by decide), s_mo_goto _⟩, (List.forall_mem_cons.mpr ⟨⟨s_iconst dL_frost_15 (by decide +kernel), s_mo_push _ _⟩, (List.forall_mem_cons.mpr ⟨s_r1 mk_289 dL_frost_16, (List.forall_mem_cons.mpr ⟨⟨s_iconst dL_frost_17 (by decide +kernel), s_mo_push _ _⟩, (List.forall_mem_cons.mpr ⟨s_r1 mk_289 dL_frost_18, (fun _ h => absurd h List.not_mem_nil)⟩)⟩)⟩)⟩)⟩)⟩)⟩)⟩)⟩)⟩)⟩)⟩)⟩)
theorem km_289 : ∀ t ∈ tm_289, s_tok 289 t := (List.forall_mem_cons.mpr ⟨s_lift mk_289 kb_289_0, (fun _ h => absurd h List.not_mem_nil)⟩)
theorem dL_lamps_0 : decode cL_lamps 0 = .ok (.aload_n 3, 1) := by decide +kernel
theorem dL_lamps_1 : decode cL_lamps 1 = .ok (.iconst 0, 1) := by decide +kernel
theorem dL_lamps_2 : decode cL_lamps 2 = .ok (.aload_n 0, 1) := by decide +kernel
theorem dL_lamps_3 : decode cL_lamps 3 = .ok (.iload_n 1, 1) := by decide +kernel
theorem dL_lamps_4 : decode cL_lamps 4 = .ok (.iload_n 2, 1) := by decide +kernel
theorem dL_lamps_5 : decode cL_lamps 5 = .ok (.invokevirtual 104, 3) := by decide +kernel
theorem dL_lamps_8 : decode cL_lamps 8 = .ok (.i2l, 1) := by decide +kernel
theorem dL_lamps_9 : decode cL_lamps 9 = .ok (.lastore, 1) := by decide +kernel
theorem dL_lamps_10 : decode cL_lamps 10 = .ok (.goto 7, 3) := by decide +kernel
theorem dL_lamps_13 : decode cL_lamps 13 = .ok (.astore 4, 2) := by decide +kernel
theorem dL_lamps_15 : decode cL_lamps 15 = .ok (.iconst 1, 1) := by decide +kernel
theorem dL_lamps_16 : decode cL_lamps 16 = .ok (.ireturn, 1) := by decide +kernel
theorem dL_lamps_17 : decode cL_lamps 17 = .ok (.iconst 0, 1) := by decide +kernel
theorem dL_lamps_18 : decode cL_lamps 18 = .ok (.ireturn, 1) := by decide +kernel
set_option maxRecDepth 20000 in
theorem kb_290_0 : ∀ q ∈ tb_290_0, s_atx 290 yL_lamps cL_lamps q.1 q.2 := (List.forall_mem_cons.mpr ⟨⟨s_ldAn dL_lamps_0 rfl, s_mo_ldA _ _⟩, (List.forall_mem_cons.mpr ⟨⟨s_iconst dL_lamps_1 (by decide +kernel), s_mo_push _ _⟩, (List.forall_mem_cons.mpr ⟨⟨s_ldAn dL_lamps_2 rfl, s_mo_ldA _ _⟩, (List.forall_mem_cons.mpr ⟨⟨s_ldIn dL_lamps_3 rfl, s_mo_ldI _ _⟩, (List.forall_mem_cons.mpr ⟨⟨s_ldIn dL_lamps_4 rfl, s_mo_ldI _ _⟩, (List.forall_mem_cons.mpr ⟨⟨s_sV mk_290 mk_137 ok_137 (by decide +kernel) dL_lamps_5 w_1186 w_1187 w_1188 (Or.inr ⟨7, _, _, rfl, rfl⟩), s_h1 mk_290 rfl (by decide) w_756 (by decide +kernel) (Or.inr ⟨dL_lamps_13, rfl⟩)⟩, (List.forall_mem_cons.mpr ⟨⟨s_i2l dL_lamps_8, s_mo_i2l _⟩, (List.forall_mem_cons.mpr ⟨⟨s_last dL_lamps_9, s_mo_last _⟩, (List.forall_mem_cons.mpr ⟨⟨s_goto dL_lamps_10 (by decide), s_mo_goto _⟩, (List.forall_mem_cons.mpr ⟨⟨s_iconst dL_lamps_15 (by decide +kernel), s_mo_push _ _⟩, (List.forall_mem_cons.mpr ⟨s_r1 mk_290 dL_lamps_16, (List.forall_mem_cons.mpr ⟨⟨s_iconst dL_lamps_17 (by decide +kernel), s_mo_push _ _⟩, (List.forall_mem_cons.mpr ⟨s_r1 mk_290 dL_lamps_18, (fun _ h => absurd h List.not_mem_nil)⟩)⟩)⟩)⟩)⟩)⟩)⟩)⟩)⟩)⟩)⟩)⟩)⟩)
theorem km_290 : ∀ t ∈ tm_290, s_tok 290 t := (List.forall_mem_cons.mpr ⟨s_lift mk_290 kb_290_0, (fun _ h => absurd h List.not_mem_nil)⟩)
theorem dL_law_0 : decode cL_law 0 = .ok (.new 8, 3) := by decide +kernel
theorem dL_law_3 : decode cL_law 3 = .ok (.dup, 1) := by decide +kernel
theorem dL_law_4 : decode cL_law 4 = .ok (.invokespecial 107, 3) := by decide +kernel
theorem dL_law_7 : decode cL_law 7 = .ok (.astore_n 1, 1) := by decide +kernel
theorem dL_law_8 : decode cL_law 8 = .ok (.new 108, 3) := by decide +kernel
theorem dL_law_11 : decode cL_law 11 = .ok (.dup, 1) := by decide +kernel
theorem dL_law_12 : decode cL_law 12 = .ok (.invokespecial 110, 3) := by decide +kernel
theorem dL_law_15 : decode cL_law 15 = .ok (.astore_n 2, 1) := by decide +kernel
theorem dL_law_16 : decode cL_law 16 = .ok (.iconst 1, 1) := by decide +kernel
theorem dL_law_17 : decode cL_law 17 = .ok (.newarray .long, 2) := by decide +kernel
theorem dL_law_19 : decode cL_law 19 = .ok (.astore_n 3, 1) := by decide +kernel
theorem dL_law_20 : decode cL_law 20 = .ok (.iconst 0, 1) := by decide +kernel
theorem dL_law_21 : decode cL_law 21 = .ok (.istore 4, 2) := by decide +kernel
theorem dL_law_23 : decode cL_law 23 = .ok (.iload 4, 2) := by decide +kernel
theorem dL_law_25 : decode cL_law 25 = .ok (.aload_n 0, 1) := by decide +kernel
theorem dL_law_26 : decode cL_law 26 = .ok (.arraylength, 1) := by decide +kernel
theorem dL_law_27 : decode cL_law 27 = .ok (.bipush 6, 2) := by decide +kernel
theorem dL_law_29 : decode cL_law 29 = .ok (.isub, 1) := by decide +kernel
theorem dL_law_30 : decode cL_law 30 = .ok (.if_icmp .gt 2369, 3) := by decide +kernel
theorem dL_law_33 : decode cL_law 33 = .ok (.aload_n 0, 1) := by decide +kernel
theorem dL_law_34 : decode cL_law 34 = .ok (.iload 4, 2) := by decide +kernel
theorem dL_law_36 : decode cL_law 36 = .ok (.iaload, 1) := by decide +kernel
theorem dL_law_37 : decode cL_law 37 = .ok (.bipush 63, 2) := by decide +kernel
theorem dL_law_39 : decode cL_law 39 = .ok (.iand, 1) := by decide +kernel
theorem dL_law_40 : decode cL_law 40 = .ok (.tableswitch 2353 0 39 #[176, 249, 274, 318, 362, 375, 443, 511, 579, 635, 703, 790, 846, 926, 1006, 1081, 1149, 1193, 1273, 1341, 1409, 1489, 1545, 1637, 1662, 1730, 1798, 1894, 1998, 2078, 2146, 2159, 2184, 2197, 2210, 2223, 2291, 2304, 2315, 2328], 176) := by decide +kernel
theorem dL_law_216 : decode cL_law 216 = .ok (.aload_n 1, 1) := by decide +kernel
theorem dL_law_217 : decode cL_law 217 = .ok (.aload_n 0, 1) := by decide +kernel
theorem dL_law_218 : decode cL_law 218 = .ok (.iload 4, 2) := by decide +kernel
theorem dL_law_220 : decode cL_law 220 = .ok (.iconst 1, 1) := by decide +kernel
theorem dL_law_221 : decode cL_law 221 = .ok (.iadd, 1) := by decide +kernel
theorem dL_law_222 : decode cL_law 222 = .ok (.iaload, 1) := by decide +kernel
theorem dL_law_223 : decode cL_law 223 = .ok (.aload_n 0, 1) := by decide +kernel
theorem dL_law_224 : decode cL_law 224 = .ok (.iload 4, 2) := by decide +kernel
theorem dL_law_226 : decode cL_law 226 = .ok (.iconst 2, 1) := by decide +kernel
theorem dL_law_227 : decode cL_law 227 = .ok (.iadd, 1) := by decide +kernel
theorem dL_law_228 : decode cL_law 228 = .ok (.iaload, 1) := by decide +kernel
theorem dL_law_229 : decode cL_law 229 = .ok (.aload_n 0, 1) := by decide +kernel
theorem dL_law_230 : decode cL_law 230 = .ok (.iload 4, 2) := by decide +kernel
theorem dL_law_232 : decode cL_law 232 = .ok (.iconst 3, 1) := by decide +kernel
theorem dL_law_233 : decode cL_law 233 = .ok (.iadd, 1) := by decide +kernel
theorem dL_law_234 : decode cL_law 234 = .ok (.iaload, 1) := by decide +kernel
theorem dL_law_235 : decode cL_law 235 = .ok (.aload_n 0, 1) := by decide +kernel
theorem dL_law_236 : decode cL_law 236 = .ok (.iload 4, 2) := by decide +kernel
theorem dL_law_238 : decode cL_law 238 = .ok (.iconst 4, 1) := by decide +kernel
theorem dL_law_239 : decode cL_law 239 = .ok (.iadd, 1) := by decide +kernel
theorem dL_law_240 : decode cL_law 240 = .ok (.iaload, 1) := by decide +kernel
theorem dL_law_241 : decode cL_law 241 = .ok (.aload_n 0, 1) := by decide +kernel
theorem dL_law_242 : decode cL_law 242 = .ok (.iload 4, 2) := by decide +kernel
theorem dL_law_244 : decode cL_law 244 = .ok (.iconst 5, 1) := by decide +kernel
theorem dL_law_245 : decode cL_law 245 = .ok (.iadd, 1) := by decide +kernel
theorem dL_law_246 : decode cL_law 246 = .ok (.iaload, 1) := by decide +kernel
theorem dL_law_247 : decode cL_law 247 = .ok (.invokevirtual 111, 3) := by decide +kernel
theorem dL_law_250 : decode cL_law 250 = .ok (.aload_n 2, 1) := by decide +kernel
theorem dL_law_251 : decode cL_law 251 = .ok (.aload_n 0, 1) := by decide +kernel
theorem dL_law_252 : decode cL_law 252 = .ok (.iload 4, 2) := by decide +kernel
theorem dL_law_254 : decode cL_law 254 = .ok (.iconst 1, 1) := by decide +kernel
theorem dL_law_255 : decode cL_law 255 = .ok (.iadd, 1) := by decide +kernel
theorem dL_law_256 : decode cL_law 256 = .ok (.iaload, 1) := by decide +kernel
theorem dL_law_257 : decode cL_law 257 = .ok (.aload_n 0, 1) := by decide +kernel
theorem dL_law_258 : decode cL_law 258 = .ok (.iload 4, 2) := by decide +kernel
theorem dL_law_260 : decode cL_law 260 = .ok (.iconst 2, 1) := by decide +kernel
theorem dL_law_261 : decode cL_law 261 = .ok (.iadd, 1) := by decide +kernel
theorem dL_law_262 : decode cL_law 262 = .ok (.iaload, 1) := by decide +kernel
theorem dL_law_263 : decode cL_law 263 = .ok (.aload_n 0, 1) := by decide +kernel
theorem dL_law_264 : decode cL_law 264 = .ok (.iload 4, 2) := by decide +kernel
theorem dL_law_266 : decode cL_law 266 = .ok (.iconst 3, 1) := by decide +kernel
theorem dL_law_267 : decode cL_law 267 = .ok (.iadd, 1) := by decide +kernel
theorem dL_law_268 : decode cL_law 268 = .ok (.iaload, 1) := by decide +kernel
theorem dL_law_269 : decode cL_law 269 = .ok (.aload_n 0, 1) := by decide +kernel
theorem dL_law_270 : decode cL_law 270 = .ok (.iload 4, 2) := by decide +kernel
theorem dL_law_272 : decode cL_law 272 = .ok (.iconst 4, 1) := by decide +kernel
theorem dL_law_273 : decode cL_law 273 = .ok (.iadd, 1) := by decide +kernel
theorem dL_law_274 : decode cL_law 274 = .ok (.iaload, 1) := by decide +kernel
theorem dL_law_275 : decode cL_law 275 = .ok (.aload_n 0, 1) := by decide +kernel
theorem dL_law_276 : decode cL_law 276 = .ok (.iload 4, 2) := by decide +kernel
theorem dL_law_278 : decode cL_law 278 = .ok (.iconst 5, 1) := by decide +kernel
theorem dL_law_279 : decode cL_law 279 = .ok (.iadd, 1) := by decide +kernel
theorem dL_law_280 : decode cL_law 280 = .ok (.iaload, 1) := by decide +kernel
theorem dL_law_281 : decode cL_law 281 = .ok (.invokevirtual 114, 3) := by decide +kernel
theorem dL_law_284 : decode cL_law 284 = .ok (.if_icmp .eq 2109, 3) := by decide +kernel
theorem dL_law_287 : decode cL_law 287 = .ok (.iconst 0, 1) := by decide +kernel
theorem dL_law_288 : decode cL_law 288 = .ok (.ireturn, 1) := by decide +kernel
theorem dL_law_289 : decode cL_law 289 = .ok (.aload_n 1, 1) := by decide +kernel
theorem dL_law_290 : decode cL_law 290 = .ok (.aload_n 0, 1) := by decide +kernel
theorem dL_law_291 : decode cL_law 291 = .ok (.iload 4, 2) := by decide +kernel
theorem dL_law_293 : decode cL_law 293 = .ok (.iconst 1, 1) := by decide +kernel
theorem dL_law_294 : decode cL_law 294 = .ok (.iadd, 1) := by decide +kernel
theorem dL_law_295 : decode cL_law 295 = .ok (.iaload, 1) := by decide +kernel
theorem dL_law_296 : decode cL_law 296 = .ok (.invokevirtual 115, 3) := by decide +kernel
theorem dL_law_299 : decode cL_law 299 = .ok (.aload_n 2, 1) := by decide +kernel
theorem dL_law_300 : decode cL_law 300 = .ok (.aload_n 0, 1) := by decide +kernel
theorem dL_law_301 : decode cL_law 301 = .ok (.iload 4, 2) := by decide +kernel
theorem dL_law_303 : decode cL_law 303 = .ok (.iconst 1, 1) := by decide +kernel
theorem dL_law_304 : decode cL_law 304 = .ok (.iadd, 1) := by decide +kernel
theorem dL_law_305 : decode cL_law 305 = .ok (.iaload, 1) := by decide +kernel
theorem dL_law_306 : decode cL_law 306 = .ok (.invokevirtual 119, 3) := by decide +kernel
theorem dL_law_309 : decode cL_law 309 = .ok (.if_icmp .eq 2084, 3) := by decide +kernel
theorem dL_law_312 : decode cL_law 312 = .ok (.iconst 0, 1) := by decide +kernel
theorem dL_law_313 : decode cL_law 313 = .ok (.ireturn, 1) := by decide +kernel
theorem dL_law_314 : decode cL_law 314 = .ok (.aload_n 1, 1) := by decide +kernel
theorem dL_law_315 : decode cL_law 315 = .ok (.aload_n 3, 1) := by decide +kernel
theorem dL_law_316 : decode cL_law 316 = .ok (.invokestatic 120, 3) := by decide +kernel
theorem dL_law_319 : decode cL_law 319 = .ok (.istore 5, 2) := by decide +kernel
theorem dL_law_321 : decode cL_law 321 = .ok (.aload_n 2, 1) := by decide +kernel
theorem dL_law_322 : decode cL_law 322 = .ok (.invokevirtual 125, 3) := by decide +kernel
theorem dL_law_325 : decode cL_law 325 = .ok (.istore 6, 2) := by decide +kernel
theorem dL_law_327 : decode cL_law 327 = .ok (.aload_n 2, 1) := by decide +kernel
theorem dL_law_328 : decode cL_law 328 = .ok (.invokevirtual 126, 3) := by decide +kernel
theorem dL_law_331 : decode cL_law 331 = .ok (.iload 5, 2) := by decide +kernel
theorem dL_law_333 : decode cL_law 333 = .ok (.if_icmp .eq 5, 3) := by decide +kernel
theorem dL_law_336 : decode cL_law 336 = .ok (.iconst 0, 1) := by decide +kernel
theorem dL_law_337 : decode cL_law 337 = .ok (.ireturn, 1) := by decide +kernel
theorem dL_law_338 : decode cL_law 338 = .ok (.iload 5, 2) := by decide +kernel
theorem dL_law_340 : decode cL_law 340 = .ok (.ifCond .ne 15, 3) := by decide +kernel
theorem dL_law_343 : decode cL_law 343 = .ok (.aload_n 3, 1) := by decide +kernel
theorem dL_law_344 : decode cL_law 344 = .ok (.iconst 0, 1) := by decide +kernel
theorem dL_law_345 : decode cL_law 345 = .ok (.laload, 1) := by decide +kernel
theorem dL_law_346 : decode cL_law 346 = .ok (.iload 6, 2) := by decide +kernel
theorem dL_law_348 : decode cL_law 348 = .ok (.i2l, 1) := by decide +kernel
theorem dL_law_349 : decode cL_law 349 = .ok (.lcmp, 1) := by decide +kernel
theorem dL_law_350 : decode cL_law 350 = .ok (.ifCond .eq 5, 3) := by decide +kernel
theorem dL_law_353 : decode cL_law 353 = .ok (.iconst 0, 1) := by decide +kernel
theorem dL_law_354 : decode cL_law 354 = .ok (.ireturn, 1) := by decide +kernel
theorem dL_law_355 : decode cL_law 355 = .ok (.goto 2038, 3) := by decide +kernel
theorem dL_law_358 : decode cL_law 358 = .ok (.aload_n 1, 1) := by decide +kernel
theorem dL_law_359 : decode cL_law 359 = .ok (.aload_n 3, 1) := by decide +kernel
theorem dL_law_360 : decode cL_law 360 = .ok (.invokestatic 129, 3) := by decide +kernel
theorem dL_law_363 : decode cL_law 363 = .ok (.istore 5, 2) := by decide +kernel
theorem dL_law_365 : decode cL_law 365 = .ok (.aload_n 2, 1) := by decide +kernel
theorem dL_law_366 : decode cL_law 366 = .ok (.invokevirtual 131, 3) := by decide +kernel
theorem dL_law_369 : decode cL_law 369 = .ok (.istore 6, 2) := by decide +kernel
theorem dL_law_371 : decode cL_law 371 = .ok (.aload_n 2, 1) := by decide +kernel
theorem dL_law_372 : decode cL_law 372 = .ok (.invokevirtual 126, 3) := by decide +kernel
theorem dL_law_375 : decode cL_law 375 = .ok (.iload 5, 2) := by decide +kernel
theorem dL_law_377 : decode cL_law 377 = .ok (.if_icmp .eq 5, 3) := by decide +kernel
theorem dL_law_380 : decode cL_law 380 = .ok (.iconst 0, 1) := by decide +kernel
theorem dL_law_381 : decode cL_law 381 = .ok (.ireturn, 1) := by decide +kernel
theorem dL_law_382 : decode cL_law 382 = .ok (.iload 5, 2) := by decide +kernel
theorem dL_law_384 : decode cL_law 384 = .ok (.ifCond .ne 15, 3) := by decide +kernel
theorem dL_law_387 : decode cL_law 387 = .ok (.aload_n 3, 1) := by decide +kernel
theorem dL_law_388 : decode cL_law 388 = .ok (.iconst 0, 1) := by decide +kernel
theorem dL_law_389 : decode cL_law 389 = .ok (.laload, 1) := by decide +kernel
theorem dL_law_390 : decode cL_law 390 = .ok (.iload 6, 2) := by decide +kernel
theorem dL_law_392 : decode cL_law 392 = .ok (.i2l, 1) := by decide +kernel
theorem dL_law_393 : decode cL_law 393 = .ok (.lcmp, 1) := by decide +kernel
theorem dL_law_394 : decode cL_law 394 = .ok (.ifCond .eq 5, 3) := by decide +kernel
theorem dL_law_397 : decode cL_law 397 = .ok (.iconst 0, 1) := by decide +kernel
theorem dL_law_398 : decode cL_law 398 = .ok (.ireturn, 1) := by decide +kernel
theorem dL_law_399 : decode cL_law 399 = .ok (.goto 1994, 3) := by decide +kernel
theorem dL_law_402 : decode cL_law 402 = .ok (.aload_n 1, 1) := by decide +kernel
theorem dL_law_403 : decode cL_law 403 = .ok (.invokevirtual 132, 3) := by decide +kernel
theorem dL_law_406 : decode cL_law 406 = .ok (.aload_n 2, 1) := by decide +kernel
theorem dL_law_407 : decode cL_law 407 = .ok (.invokevirtual 135, 3) := by decide +kernel
theorem dL_law_410 : decode cL_law 410 = .ok (.if_icmp .eq 1983, 3) := by decide +kernel
theorem dL_law_413 : decode cL_law 413 = .ok (.iconst 0, 1) := by decide +kernel
theorem dL_law_414 : decode cL_law 414 = .ok (.ireturn, 1) := by decide +kernel
theorem dL_law_415 : decode cL_law 415 = .ok (.aload_n 1, 1) := by decide +kernel
theorem dL_law_416 : decode cL_law 416 = .ok (.aload_n 0, 1) := by decide +kernel
theorem dL_law_417 : decode cL_law 417 = .ok (.iload 4, 2) := by decide +kernel
theorem dL_law_419 : decode cL_law 419 = .ok (.iconst 1, 1) := by decide +kernel
theorem dL_law_420 : decode cL_law 420 = .ok (.iadd, 1) := by decide +kernel
theorem dL_law_421 : decode cL_law 421 = .ok (.iaload, 1) := by decide +kernel
theorem dL_law_422 : decode cL_law 422 = .ok (.aload_n 0, 1) := by decide +kernel
theorem dL_law_423 : decode cL_law 423 = .ok (.iload 4, 2) := by decide +kernel
theorem dL_law_425 : decode cL_law 425 = .ok (.iconst 2, 1) := by decide +kernel
theorem dL_law_426 : decode cL_law 426 = .ok (.iadd, 1) := by decide +kernel
theorem dL_law_427 : decode cL_law 427 = .ok (.iaload, 1) := by decide +kernel
theorem dL_law_428 : decode cL_law 428 = .ok (.aload_n 3, 1) := by decide +kernel
theorem dL_law_429 : decode cL_law 429 = .ok (.invokestatic 136, 3) := by decide +kernel
theorem dL_law_432 : decode cL_law 432 = .ok (.istore 5, 2) := by decide +kernel
theorem dL_law_434 : decode cL_law 434 = .ok (.aload_n 2, 1) := by decide +kernel
theorem dL_law_435 : decode cL_law 435 = .ok (.aload_n 0, 1) := by decide +kernel
theorem dL_law_436 : decode cL_law 436 = .ok (.iload 4, 2) := by decide +kernel
theorem dL_law_438 : decode cL_law 438 = .ok (.iconst 1, 1) := by decide +kernel
theorem dL_law_439 : decode cL_law 439 = .ok (.iadd, 1) := by decide +kernel
theorem dL_law_440 : decode cL_law 440 = .ok (.iaload, 1) := by decide +kernel
theorem dL_law_441 : decode cL_law 441 = .ok (.aload_n 0, 1) := by decide +kernel
theorem dL_law_442 : decode cL_law 442 = .ok (.iload 4, 2) := by decide +kernel
theorem dL_law_444 : decode cL_law 444 = .ok (.iconst 2, 1) := by decide +kernel
theorem dL_law_445 : decode cL_law 445 = .ok (.iadd, 1) := by decide +kernel
theorem dL_law_446 : decode cL_law 446 = .ok (.iaload, 1) := by decide +kernel
theorem dL_law_447 : decode cL_law 447 = .ok (.invokevirtual 139, 3) := by decide +kernel
theorem dL_law_450 : decode cL_law 450 = .ok (.istore 6, 2) := by decide +kernel
theorem dL_law_452 : decode cL_law 452 = .ok (.aload_n 2, 1) := by decide +kernel
theorem dL_law_453 : decode cL_law 453 = .ok (.invokevirtual 126, 3) := by decide +kernel
theorem dL_law_456 : decode cL_law 456 = .ok (.iload 5, 2) := by decide +kernel
theorem dL_law_458 : decode cL_law 458 = .ok (.if_icmp .eq 5, 3) := by decide +kernel
theorem dL_law_461 : decode cL_law 461 = .ok (.iconst 0, 1) := by decide +kernel
theorem dL_law_462 : decode cL_law 462 = .ok (.ireturn, 1) := by decide +kernel
theorem dL_law_463 : decode cL_law 463 = .ok (.iload 5, 2) := by decide +kernel
theorem dL_law_465 : decode cL_law 465 = .ok (.ifCond .ne 15, 3) := by decide +kernel
theorem dL_law_468 : decode cL_law 468 = .ok (.aload_n 3, 1) := by decide +kernel
theorem dL_law_469 : decode cL_law 469 = .ok (.iconst 0, 1) := by decide +kernel
theorem dL_law_470 : decode cL_law 470 = .ok (.laload, 1) := by decide +kernel
theorem dL_law_471 : decode cL_law 471 = .ok (.iload 6, 2) := by decide +kernel
theorem dL_law_473 : decode cL_law 473 = .ok (.i2l, 1) := by decide +kernel
theorem dL_law_474 : decode cL_law 474 = .ok (.lcmp, 1) := by decide +kernel
theorem dL_law_475 : decode cL_law 475 = .ok (.ifCond .eq 5, 3) := by decide +kernel
theorem dL_law_478 : decode cL_law 478 = .ok (.iconst 0, 1) := by decide +kernel
theorem dL_law_479 : decode cL_law 479 = .ok (.ireturn, 1) := by decide +kernel
theorem dL_law_480 : decode cL_law 480 = .ok (.goto 1913, 3) := by decide +kernel
theorem dL_law_483 : decode cL_law 483 = .ok (.aload_n 1, 1) := by decide +kernel
theorem dL_law_484 : decode cL_law 484 = .ok (.aload_n 0, 1) := by decide +kernel
theorem dL_law_485 : decode cL_law 485 = .ok (.iload 4, 2) := by decide +kernel
theorem dL_law_487 : decode cL_law 487 = .ok (.iconst 1, 1) := by decide +kernel
theorem dL_law_488 : decode cL_law 488 = .ok (.iadd, 1) := by decide +kernel
theorem dL_law_489 : decode cL_law 489 = .ok (.iaload, 1) := by decide +kernel
theorem dL_law_490 : decode cL_law 490 = .ok (.aload_n 0, 1) := by decide +kernel
theorem dL_law_491 : decode cL_law 491 = .ok (.iload 4, 2) := by decide +kernel
theorem dL_law_493 : decode cL_law 493 = .ok (.iconst 2, 1) := by decide +kernel
theorem dL_law_494 : decode cL_law 494 = .ok (.iadd, 1) := by decide +kernel
theorem dL_law_495 : decode cL_law 495 = .ok (.iaload, 1) := by decide +kernel
theorem dL_law_496 : decode cL_law 496 = .ok (.aload_n 3, 1) := by decide +kernel
theorem dL_law_497 : decode cL_law 497 = .ok (.invokestatic 140, 3) := by decide +kernel
theorem dL_law_500 : decode cL_law 500 = .ok (.istore 5, 2) := by decide +kernel
theorem dL_law_502 : decode cL_law 502 = .ok (.aload_n 2, 1) := by decide +kernel
theorem dL_law_503 : decode cL_law 503 = .ok (.aload_n 0, 1) := by decide +kernel
theorem dL_law_504 : decode cL_law 504 = .ok (.iload 4, 2) := by decide +kernel
theorem dL_law_506 : decode cL_law 506 = .ok (.iconst 1, 1) := by decide +kernel
theorem dL_law_507 : decode cL_law 507 = .ok (.iadd, 1) := by decide +kernel
theorem dL_law_508 : decode cL_law 508 = .ok (.iaload, 1) := by decide +kernel
theorem dL_law_509 : decode cL_law 509 = .ok (.aload_n 0, 1) := by decide +kernel
theorem dL_law_510 : decode cL_law 510 = .ok (.iload 4, 2) := by decide +kernel
theorem dL_law_512 : decode cL_law 512 = .ok (.iconst 2, 1) := by decide +kernel
theorem dL_law_513 : decode cL_law 513 = .ok (.iadd, 1) := by decide +kernel
theorem dL_law_514 : decode cL_law 514 = .ok (.iaload, 1) := by decide +kernel
theorem dL_law_515 : decode cL_law 515 = .ok (.invokevirtual 142, 3) := by decide +kernel
theorem dL_law_518 : decode cL_law 518 = .ok (.istore 6, 2) := by decide +kernel
theorem dL_law_520 : decode cL_law 520 = .ok (.aload_n 2, 1) := by decide +kernel
theorem dL_law_521 : decode cL_law 521 = .ok (.invokevirtual 126, 3) := by decide +kernel
theorem dL_law_524 : decode cL_law 524 = .ok (.iload 5, 2) := by decide +kernel
theorem dL_law_526 : decode cL_law 526 = .ok (.if_icmp .eq 5, 3) := by decide +kernel
theorem dL_law_529 : decode cL_law 529 = .ok (.iconst 0, 1) := by decide +kernel
theorem dL_law_530 : decode cL_law 530 = .ok (.ireturn, 1) := by decide +kernel
theorem dL_law_531 : decode cL_law 531 = .ok (.iload 5, 2) := by decide +kernel
theorem dL_law_533 : decode cL_law 533 = .ok (.ifCond .ne 15, 3) := by decide +kernel
theorem dL_law_536 : decode cL_law 536 = .ok (.aload_n 3, 1) := by decide +kernel
theorem dL_law_537 : decode cL_law 537 = .ok (.iconst 0, 1) := by decide +kernel
theorem dL_law_538 : decode cL_law 538 = .ok (.laload, 1) := by decide +kernel
theorem dL_law_539 : decode cL_law 539 = .ok (.iload 6, 2) := by decide +kernel
theorem dL_law_541 : decode cL_law 541 = .ok (.i2l, 1) := by decide +kernel
theorem dL_law_542 : decode cL_law 542 = .ok (.lcmp, 1) := by decide +kernel
theorem dL_law_543 : decode cL_law 543 = .ok (.ifCond .eq 5, 3) := by decide +kernel
theorem dL_law_546 : decode cL_law 546 = .ok (.iconst 0, 1) := by decide +kernel
theorem dL_law_547 : decode cL_law 547 = .ok (.ireturn, 1) := by decide +kernel
theorem dL_law_548 : decode cL_law 548 = .ok (.goto 1845, 3) := by decide +kernel
theorem dL_law_551 : decode cL_law 551 = .ok (.aload_n 1, 1) := by decide +kernel
theorem dL_law_552 : decode cL_law 552 = .ok (.aload_n 0, 1) := by decide +kernel
theorem dL_law_553 : decode cL_law 553 = .ok (.iload 4, 2) := by decide +kernel
theorem dL_law_555 : decode cL_law 555 = .ok (.iconst 1, 1) := by decide +kernel
theorem dL_law_556 : decode cL_law 556 = .ok (.iadd, 1) := by decide +kernel
theorem dL_law_557 : decode cL_law 557 = .ok (.iaload, 1) := by decide +kernel
theorem dL_law_558 : decode cL_law 558 = .ok (.aload_n 0, 1) := by decide +kernel
theorem dL_law_559 : decode cL_law 559 = .ok (.iload 4, 2) := by decide +kernel
theorem dL_law_561 : decode cL_law 561 = .ok (.iconst 2, 1) := by decide +kernel
theorem dL_law_562 : decode cL_law 562 = .ok (.iadd, 1) := by decide +kernel
theorem dL_law_563 : decode cL_law 563 = .ok (.iaload, 1) := by decide +kernel
theorem dL_law_564 : decode cL_law 564 = .ok (.aload_n 3, 1) := by decide +kernel
theorem dL_law_565 : decode cL_law 565 = .ok (.invokestatic 143, 3) := by decide +kernel
theorem dL_law_568 : decode cL_law 568 = .ok (.istore 5, 2) := by decide +kernel
theorem dL_law_570 : decode cL_law 570 = .ok (.aload_n 2, 1) := by decide +kernel
theorem dL_law_571 : decode cL_law 571 = .ok (.aload_n 0, 1) := by decide +kernel
theorem dL_law_572 : decode cL_law 572 = .ok (.iload 4, 2) := by decide +kernel
theorem dL_law_574 : decode cL_law 574 = .ok (.iconst 1, 1) := by decide +kernel
theorem dL_law_575 : decode cL_law 575 = .ok (.iadd, 1) := by decide +kernel
theorem dL_law_576 : decode cL_law 576 = .ok (.iaload, 1) := by decide +kernel
theorem dL_law_577 : decode cL_law 577 = .ok (.aload_n 0, 1) := by decide +kernel
theorem dL_law_578 : decode cL_law 578 = .ok (.iload 4, 2) := by decide +kernel
theorem dL_law_580 : decode cL_law 580 = .ok (.iconst 2, 1) := by decide +kernel
theorem dL_law_581 : decode cL_law 581 = .ok (.iadd, 1) := by decide +kernel
theorem dL_law_582 : decode cL_law 582 = .ok (.iaload, 1) := by decide +kernel
theorem dL_law_583 : decode cL_law 583 = .ok (.invokevirtual 145, 3) := by decide +kernel
theorem dL_law_586 : decode cL_law 586 = .ok (.istore 6, 2) := by decide +kernel
theorem dL_law_588 : decode cL_law 588 = .ok (.aload_n 2, 1) := by decide +kernel
theorem dL_law_589 : decode cL_law 589 = .ok (.invokevirtual 126, 3) := by decide +kernel
theorem dL_law_592 : decode cL_law 592 = .ok (.iload 5, 2) := by decide +kernel
theorem dL_law_594 : decode cL_law 594 = .ok (.if_icmp .eq 5, 3) := by decide +kernel
theorem dL_law_597 : decode cL_law 597 = .ok (.iconst 0, 1) := by decide +kernel
theorem dL_law_598 : decode cL_law 598 = .ok (.ireturn, 1) := by decide +kernel
theorem dL_law_599 : decode cL_law 599 = .ok (.iload 5, 2) := by decide +kernel
theorem dL_law_601 : decode cL_law 601 = .ok (.ifCond .ne 15, 3) := by decide +kernel
theorem dL_law_604 : decode cL_law 604 = .ok (.aload_n 3, 1) := by decide +kernel
theorem dL_law_605 : decode cL_law 605 = .ok (.iconst 0, 1) := by decide +kernel
theorem dL_law_606 : decode cL_law 606 = .ok (.laload, 1) := by decide +kernel
theorem dL_law_607 : decode cL_law 607 = .ok (.iload 6, 2) := by decide +kernel
theorem dL_law_609 : decode cL_law 609 = .ok (.i2l, 1) := by decide +kernel
theorem dL_law_610 : decode cL_law 610 = .ok (.lcmp, 1) := by decide +kernel
theorem dL_law_611 : decode cL_law 611 = .ok (.ifCond .eq 5, 3) := by decide +kernel
theorem dL_law_614 : decode cL_law 614 = .ok (.iconst 0, 1) := by decide +kernel
theorem dL_law_615 : decode cL_law 615 = .ok (.ireturn, 1) := by decide +kernel
theorem dL_law_616 : decode cL_law 616 = .ok (.goto 1777, 3) := by decide +kernel
theorem dL_law_619 : decode cL_law 619 = .ok (.aload_n 1, 1) := by decide +kernel
theorem dL_law_620 : decode cL_law 620 = .ok (.aload_n 0, 1) := by decide +kernel
theorem dL_law_621 : decode cL_law 621 = .ok (.iload 4, 2) := by decide +kernel
theorem dL_law_623 : decode cL_law 623 = .ok (.iconst 1, 1) := by decide +kernel
theorem dL_law_624 : decode cL_law 624 = .ok (.iadd, 1) := by decide +kernel
theorem dL_law_625 : decode cL_law 625 = .ok (.iaload, 1) := by decide +kernel
theorem dL_law_626 : decode cL_law 626 = .ok (.aload_n 3, 1) := by decide +kernel
theorem dL_law_627 : decode cL_law 627 = .ok (.invokestatic 146, 3) := by decide +kernel
theorem dL_law_630 : decode cL_law 630 = .ok (.istore 5, 2) := by decide +kernel
theorem dL_law_632 : decode cL_law 632 = .ok (.aload_n 2, 1) := by decide +kernel
theorem dL_law_633 : decode cL_law 633 = .ok (.aload_n 0, 1) := by decide +kernel
theorem dL_law_634 : decode cL_law 634 = .ok (.iload 4, 2) := by decide +kernel
theorem dL_law_636 : decode cL_law 636 = .ok (.iconst 1, 1) := by decide +kernel
theorem dL_law_637 : decode cL_law 637 = .ok (.iadd, 1) := by decide +kernel
theorem dL_law_638 : decode cL_law 638 = .ok (.iaload, 1) := by decide +kernel
theorem dL_law_639 : decode cL_law 639 = .ok (.invokevirtual 149, 3) := by decide +kernel
theorem dL_law_642 : decode cL_law 642 = .ok (.istore 6, 2) := by decide +kernel
theorem dL_law_644 : decode cL_law 644 = .ok (.aload_n 2, 1) := by decide +kernel
theorem dL_law_645 : decode cL_law 645 = .ok (.invokevirtual 126, 3) := by decide +kernel
theorem dL_law_648 : decode cL_law 648 = .ok (.iload 5, 2) := by decide +kernel
theorem dL_law_650 : decode cL_law 650 = .ok (.if_icmp .eq 5, 3) := by decide +kernel
theorem dL_law_653 : decode cL_law 653 = .ok (.iconst 0, 1) := by decide +kernel
theorem dL_law_654 : decode cL_law 654 = .ok (.ireturn, 1) := by decide +kernel
theorem dL_law_655 : decode cL_law 655 = .ok (.iload 5, 2) := by decide +kernel
theorem dL_law_657 : decode cL_law 657 = .ok (.ifCond .ne 15, 3) := by decide +kernel
theorem dL_law_660 : decode cL_law 660 = .ok (.aload_n 3, 1) := by decide +kernel
theorem dL_law_661 : decode cL_law 661 = .ok (.iconst 0, 1) := by decide +kernel
theorem dL_law_662 : decode cL_law 662 = .ok (.laload, 1) := by decide +kernel
theorem dL_law_663 : decode cL_law 663 = .ok (.iload 6, 2) := by decide +kernel
theorem dL_law_665 : decode cL_law 665 = .ok (.i2l, 1) := by decide +kernel
theorem dL_law_666 : decode cL_law 666 = .ok (.lcmp, 1) := by decide +kernel
theorem dL_law_667 : decode cL_law 667 = .ok (.ifCond .eq 5, 3) := by decide +kernel
theorem dL_law_670 : decode cL_law 670 = .ok (.iconst 0, 1) := by decide +kernel
theorem dL_law_671 : decode cL_law 671 = .ok (.ireturn, 1) := by decide +kernel
theorem dL_law_672 : decode cL_law 672 = .ok (.goto 1721, 3) := by decide +kernel
theorem dL_law_675 : decode cL_law 675 = .ok (.aload_n 1, 1) := by decide +kernel
theorem dL_law_676 : decode cL_law 676 = .ok (.aload_n 0, 1) := by decide +kernel
theorem dL_law_677 : decode cL_law 677 = .ok (.iload 4, 2) := by decide +kernel
theorem dL_law_679 : decode cL_law 679 = .ok (.iconst 1, 1) := by decide +kernel
theorem dL_law_680 : decode cL_law 680 = .ok (.iadd, 1) := by decide +kernel
theorem dL_law_681 : decode cL_law 681 = .ok (.iaload, 1) := by decide +kernel
theorem dL_law_682 : decode cL_law 682 = .ok (.aload_n 0, 1) := by decide +kernel
theorem dL_law_683 : decode cL_law 683 = .ok (.iload 4, 2) := by decide +kernel
theorem dL_law_685 : decode cL_law 685 = .ok (.iconst 2, 1) := by decide +kernel
theorem dL_law_686 : decode cL_law 686 = .ok (.iadd, 1) := by decide +kernel
theorem dL_law_687 : decode cL_law 687 = .ok (.iaload, 1) := by decide +kernel
theorem dL_law_688 : decode cL_law 688 = .ok (.aload_n 3, 1) := by decide +kernel
theorem dL_law_689 : decode cL_law 689 = .ok (.invokestatic 150, 3) := by decide +kernel
theorem dL_law_692 : decode cL_law 692 = .ok (.istore 5, 2) := by decide +kernel
theorem dL_law_694 : decode cL_law 694 = .ok (.aload_n 2, 1) := by decide +kernel
theorem dL_law_695 : decode cL_law 695 = .ok (.aload_n 0, 1) := by decide +kernel
theorem dL_law_696 : decode cL_law 696 = .ok (.iload 4, 2) := by decide +kernel
theorem dL_law_698 : decode cL_law 698 = .ok (.iconst 1, 1) := by decide +kernel
theorem dL_law_699 : decode cL_law 699 = .ok (.iadd, 1) := by decide +kernel
theorem dL_law_700 : decode cL_law 700 = .ok (.iaload, 1) := by decide +kernel
theorem dL_law_701 : decode cL_law 701 = .ok (.aload_n 0, 1) := by decide +kernel
theorem dL_law_702 : decode cL_law 702 = .ok (.iload 4, 2) := by decide +kernel
theorem dL_law_704 : decode cL_law 704 = .ok (.iconst 2, 1) := by decide +kernel
theorem dL_law_705 : decode cL_law 705 = .ok (.iadd, 1) := by decide +kernel
theorem dL_law_706 : decode cL_law 706 = .ok (.iaload, 1) := by decide +kernel
theorem dL_law_707 : decode cL_law 707 = .ok (.invokevirtual 152, 3) := by decide +kernel
theorem dL_law_710 : decode cL_law 710 = .ok (.istore 6, 2) := by decide +kernel
theorem dL_law_712 : decode cL_law 712 = .ok (.aload_n 2, 1) := by decide +kernel
theorem dL_law_713 : decode cL_law 713 = .ok (.invokevirtual 126, 3) := by decide +kernel
theorem dL_law_716 : decode cL_law 716 = .ok (.iload 5, 2) := by decide +kernel
theorem dL_law_718 : decode cL_law 718 = .ok (.if_icmp .eq 5, 3) := by decide +kernel
theorem dL_law_721 : decode cL_law 721 = .ok (.iconst 0, 1) := by decide +kernel
theorem dL_law_722 : decode cL_law 722 = .ok (.ireturn, 1) := by decide +kernel
theorem dL_law_723 : decode cL_law 723 = .ok (.iload 5, 2) := by decide +kernel
theorem dL_law_725 : decode cL_law 725 = .ok (.ifCond .ne 15, 3) := by decide +kernel
theorem dL_law_728 : decode cL_law 728 = .ok (.aload_n 3, 1) := by decide +kernel
theorem dL_law_729 : decode cL_law 729 = .ok (.iconst 0, 1) := by decide +kernel
theorem dL_law_730 : decode cL_law 730 = .ok (.laload, 1) := by decide +kernel
theorem dL_law_731 : decode cL_law 731 = .ok (.iload 6, 2) := by decide +kernel
theorem dL_law_733 : decode cL_law 733 = .ok (.i2l, 1) := by decide +kernel
theorem dL_law_734 : decode cL_law 734 = .ok (.lcmp, 1) := by decide +kernel
theorem dL_law_735 : decode cL_law 735 = .ok (.ifCond .eq 5, 3) := by decide +kernel
theorem dL_law_738 : decode cL_law 738 = .ok (.iconst 0, 1) := by decide +kernel
theorem dL_law_739 : decode cL_law 739 = .ok (.ireturn, 1) := by decide +kernel
theorem dL_law_740 : decode cL_law 740 = .ok (.goto 1653, 3) := by decide +kernel
theorem dL_law_743 : decode cL_law 743 = .ok (.aload_n 1, 1) := by decide +kernel
theorem dL_law_744 : decode cL_law 744 = .ok (.aload_n 0, 1) := by decide +kernel
theorem dL_law_745 : decode cL_law 745 = .ok (.iload 4, 2) := by decide +kernel
theorem dL_law_747 : decode cL_law 747 = .ok (.iconst 1, 1) := by decide +kernel
theorem dL_law_748 : decode cL_law 748 = .ok (.iadd, 1) := by decide +kernel
theorem dL_law_749 : decode cL_law 749 = .ok (.iaload, 1) := by decide +kernel
theorem dL_law_750 : decode cL_law 750 = .ok (.aload_n 0, 1) := by decide +kernel
theorem dL_law_751 : decode cL_law 751 = .ok (.iload 4, 2) := by decide +kernel
theorem dL_law_753 : decode cL_law 753 = .ok (.iconst 2, 1) := by decide +kernel
theorem dL_law_754 : decode cL_law 754 = .ok (.iadd, 1) := by decide +kernel
theorem dL_law_755 : decode cL_law 755 = .ok (.iaload, 1) := by decide +kernel
theorem dL_law_756 : decode cL_law 756 = .ok (.aload_n 0, 1) := by decide +kernel
theorem dL_law_757 : decode cL_law 757 = .ok (.iload 4, 2) := by decide +kernel
theorem dL_law_759 : decode cL_law 759 = .ok (.iconst 3, 1) := by decide +kernel
theorem dL_law_760 : decode cL_law 760 = .ok (.iadd, 1) := by decide +kernel
theorem dL_law_761 : decode cL_law 761 = .ok (.iaload, 1) := by decide +kernel
theorem dL_law_762 : decode cL_law 762 = .ok (.aload_n 3, 1) := by decide +kernel
theorem dL_law_763 : decode cL_law 763 = .ok (.invokestatic 153, 3) := by decide +kernel
theorem dL_law_766 : decode cL_law 766 = .ok (.istore 5, 2) := by decide +kernel
theorem dL_law_768 : decode cL_law 768 = .ok (.aload_n 2, 1) := by decide +kernel
theorem dL_law_769 : decode cL_law 769 = .ok (.aload_n 0, 1) := by decide +kernel
theorem dL_law_770 : decode cL_law 770 = .ok (.iload 4, 2) := by decide +kernel
theorem dL_law_772 : decode cL_law 772 = .ok (.iconst 1, 1) := by decide +kernel
theorem dL_law_773 : decode cL_law 773 = .ok (.iadd, 1) := by decide +kernel
theorem dL_law_774 : decode cL_law 774 = .ok (.iaload, 1) := by decide +kernel
theorem dL_law_775 : decode cL_law 775 = .ok (.aload_n 0, 1) := by decide +kernel
theorem dL_law_776 : decode cL_law 776 = .ok (.iload 4, 2) := by decide +kernel
theorem dL_law_778 : decode cL_law 778 = .ok (.iconst 2, 1) := by decide +kernel
theorem dL_law_779 : decode cL_law 779 = .ok (.iadd, 1) := by decide +kernel
theorem dL_law_780 : decode cL_law 780 = .ok (.iaload, 1) := by decide +kernel
theorem dL_law_781 : decode cL_law 781 = .ok (.aload_n 0, 1) := by decide +kernel
theorem dL_law_782 : decode cL_law 782 = .ok (.iload 4, 2) := by decide +kernel
theorem dL_law_784 : decode cL_law 784 = .ok (.iconst 3, 1) := by decide +kernel
theorem dL_law_785 : decode cL_law 785 = .ok (.iadd, 1) := by decide +kernel
theorem dL_law_786 : decode cL_law 786 = .ok (.iaload, 1) := by decide +kernel
theorem dL_law_787 : decode cL_law 787 = .ok (.invokevirtual 156, 3) := by decide +kernel
theorem dL_law_790 : decode cL_law 790 = .ok (.istore 6, 2) := by decide +kernel
theorem dL_law_792 : decode cL_law 792 = .ok (.aload_n 2, 1) := by decide +kernel
theorem dL_law_793 : decode cL_law 793 = .ok (.invokevirtual 126, 3) := by decide +kernel
theorem dL_law_796 : decode cL_law 796 = .ok (.iload 5, 2) := by decide +kernel
theorem dL_law_798 : decode cL_law 798 = .ok (.if_icmp .eq 5, 3) := by decide +kernel
theorem dL_law_801 : decode cL_law 801 = .ok (.iconst 0, 1) := by decide +kernel
theorem dL_law_802 : decode cL_law 802 = .ok (.ireturn, 1) := by decide +kernel
theorem dL_law_803 : decode cL_law 803 = .ok (.iload 5, 2) := by decide +kernel
theorem dL_law_805 : decode cL_law 805 = .ok (.ifCond .ne 22, 3) := by decide +kernel
theorem dL_law_808 : decode cL_law 808 = .ok (.aload_n 3, 1) := by decide +kernel
theorem dL_law_809 : decode cL_law 809 = .ok (.iconst 0, 1) := by decide +kernel
theorem dL_law_810 : decode cL_law 810 = .ok (.laload, 1) := by decide +kernel
theorem dL_law_811 : decode cL_law 811 = .ok (.iload 6, 2) := by decide +kernel
theorem dL_law_813 : decode cL_law 813 = .ok (.ifCond .eq 7, 3) := by decide +kernel
theorem dL_law_816 : decode cL_law 816 = .ok (.lconst 1, 1) := by decide +kernel
theorem dL_law_817 : decode cL_law 817 = .ok (.goto 4, 3) := by decide +kernel
theorem dL_law_820 : decode cL_law 820 = .ok (.lconst 0, 1) := by decide +kernel
theorem dL_law_821 : decode cL_law 821 = .ok (.lcmp, 1) := by decide +kernel
theorem dL_law_822 : decode cL_law 822 = .ok (.ifCond .eq 5, 3) := by decide +kernel
theorem dL_law_825 : decode cL_law 825 = .ok (.iconst 0, 1) := by decide +kernel
theorem dL_law_826 : decode cL_law 826 = .ok (.ireturn, 1) := by decide +kernel
theorem dL_law_827 : decode cL_law 827 = .ok (.goto 1566, 3) := by decide +kernel
theorem dL_law_830 : decode cL_law 830 = .ok (.aload_n 1, 1) := by decide +kernel
theorem dL_law_831 : decode cL_law 831 = .ok (.aload_n 0, 1) := by decide +kernel
theorem dL_law_832 : decode cL_law 832 = .ok (.iload 4, 2) := by decide +kernel
theorem dL_law_834 : decode cL_law 834 = .ok (.iconst 1, 1) := by decide +kernel
theorem dL_law_835 : decode cL_law 835 = .ok (.iadd, 1) := by decide +kernel
theorem dL_law_836 : decode cL_law 836 = .ok (.iaload, 1) := by decide +kernel
theorem dL_law_837 : decode cL_law 837 = .ok (.aload_n 3, 1) := by decide +kernel
theorem dL_law_838 : decode cL_law 838 = .ok (.invokestatic 157, 3) := by decide +kernel
theorem dL_law_841 : decode cL_law 841 = .ok (.istore 5, 2) := by decide +kernel
theorem dL_law_843 : decode cL_law 843 = .ok (.aload_n 2, 1) := by decide +kernel
theorem dL_law_844 : decode cL_law 844 = .ok (.aload_n 0, 1) := by decide +kernel
theorem dL_law_845 : decode cL_law 845 = .ok (.iload 4, 2) := by decide +kernel
theorem dL_law_847 : decode cL_law 847 = .ok (.iconst 1, 1) := by decide +kernel
theorem dL_law_848 : decode cL_law 848 = .ok (.iadd, 1) := by decide +kernel
theorem dL_law_849 : decode cL_law 849 = .ok (.iaload, 1) := by decide +kernel
theorem dL_law_850 : decode cL_law 850 = .ok (.invokevirtual 159, 3) := by decide +kernel
theorem dL_law_853 : decode cL_law 853 = .ok (.istore 6, 2) := by decide +kernel
theorem dL_law_855 : decode cL_law 855 = .ok (.aload_n 2, 1) := by decide +kernel
theorem dL_law_856 : decode cL_law 856 = .ok (.invokevirtual 126, 3) := by decide +kernel
theorem dL_law_859 : decode cL_law 859 = .ok (.iload 5, 2) := by decide +kernel
theorem dL_law_861 : decode cL_law 861 = .ok (.if_icmp .eq 5, 3) := by decide +kernel
theorem dL_law_864 : decode cL_law 864 = .ok (.iconst 0, 1) := by decide +kernel
theorem dL_law_865 : decode cL_law 865 = .ok (.ireturn, 1) := by decide +kernel
theorem dL_law_866 : decode cL_law 866 = .ok (.iload 5, 2) := by decide +kernel
theorem dL_law_868 : decode cL_law 868 = .ok (.ifCond .ne 15, 3) := by decide +kernel
theorem dL_law_871 : decode cL_law 871 = .ok (.aload_n 3, 1) := by decide +kernel
theorem dL_law_872 : decode cL_law 872 = .ok (.iconst 0, 1) := by decide +kernel
theorem dL_law_873 : decode cL_law 873 = .ok (.laload, 1) := by decide +kernel
theorem dL_law_874 : decode cL_law 874 = .ok (.iload 6, 2) := by decide +kernel
theorem dL_law_876 : decode cL_law 876 = .ok (.i2l, 1) := by decide +kernel
theorem dL_law_877 : decode cL_law 877 = .ok (.lcmp, 1) := by decide +kernel
theorem dL_law_878 : decode cL_law 878 = .ok (.ifCond .eq 5, 3) := by decide +kernel
theorem dL_law_881 : decode cL_law 881 = .ok (.iconst 0, 1) := by decide +kernel
theorem dL_law_882 : decode cL_law 882 = .ok (.ireturn, 1) := by decide +kernel
theorem dL_law_883 : decode cL_law 883 = .ok (.goto 1510, 3) := by decide +kernel
theorem dL_law_886 : decode cL_law 886 = .ok (.aload_n 1, 1) := by decide +kernel
theorem dL_law_887 : decode cL_law 887 = .ok (.aload_n 0, 1) := by decide +kernel
theorem dL_law_888 : decode cL_law 888 = .ok (.iload 4, 2) := by decide +kernel
theorem dL_law_890 : decode cL_law 890 = .ok (.iconst 1, 1) := by decide +kernel
theorem dL_law_891 : decode cL_law 891 = .ok (.iadd, 1) := by decide +kernel
theorem dL_law_892 : decode cL_law 892 = .ok (.iaload, 1) := by decide +kernel
theorem dL_law_893 : decode cL_law 893 = .ok (.aload_n 0, 1) := by decide +kernel
theorem dL_law_894 : decode cL_law 894 = .ok (.iload 4, 2) := by decide +kernel
theorem dL_law_896 : decode cL_law 896 = .ok (.iconst 2, 1) := by decide +kernel
theorem dL_law_897 : decode cL_law 897 = .ok (.iadd, 1) := by decide +kernel
theorem dL_law_898 : decode cL_law 898 = .ok (.iaload, 1) := by decide +kernel
theorem dL_law_899 : decode cL_law 899 = .ok (.aload_n 0, 1) := by decide +kernel
theorem dL_law_900 : decode cL_law 900 = .ok (.iload 4, 2) := by decide +kernel
theorem dL_law_902 : decode cL_law 902 = .ok (.iconst 3, 1) := by decide +kernel
theorem dL_law_903 : decode cL_law 903 = .ok (.iadd, 1) := by decide +kernel
theorem dL_law_904 : decode cL_law 904 = .ok (.iaload, 1) := by decide +kernel
theorem dL_law_905 : decode cL_law 905 = .ok (.aload_n 3, 1) := by decide +kernel
theorem dL_law_906 : decode cL_law 906 = .ok (.invokestatic 160, 3) := by decide +kernel
theorem dL_law_909 : decode cL_law 909 = .ok (.istore 5, 2) := by decide +kernel
theorem dL_law_911 : decode cL_law 911 = .ok (.aload_n 2, 1) := by decide +kernel
theorem dL_law_912 : decode cL_law 912 = .ok (.aload_n 0, 1) := by decide +kernel
theorem dL_law_913 : decode cL_law 913 = .ok (.iload 4, 2) := by decide +kernel
theorem dL_law_915 : decode cL_law 915 = .ok (.iconst 1, 1) := by decide +kernel
theorem dL_law_916 : decode cL_law 916 = .ok (.iadd, 1) := by decide +kernel
theorem dL_law_917 : decode cL_law 917 = .ok (.iaload, 1) := by decide +kernel
theorem dL_law_918 : decode cL_law 918 = .ok (.aload_n 0, 1) := by decide +kernel
theorem dL_law_919 : decode cL_law 919 = .ok (.iload 4, 2) := by decide +kernel
theorem dL_law_921 : decode cL_law 921 = .ok (.iconst 2, 1) := by decide +kernel
theorem dL_law_922 : decode cL_law 922 = .ok (.iadd, 1) := by decide +kernel
theorem dL_law_923 : decode cL_law 923 = .ok (.iaload, 1) := by decide +kernel
theorem dL_law_924 : decode cL_law 924 = .ok (.aload_n 0, 1) := by decide +kernel
theorem dL_law_925 : decode cL_law 925 = .ok (.iload 4, 2) := by decide +kernel
theorem dL_law_927 : decode cL_law 927 = .ok (.iconst 3, 1) := by decide +kernel
theorem dL_law_928 : decode cL_law 928 = .ok (.iadd, 1) := by decide +kernel
theorem dL_law_929 : decode cL_law 929 = .ok (.iaload, 1) := by decide +kernel
theorem dL_law_930 : decode cL_law 930 = .ok (.invokevirtual 162, 3) := by decide +kernel
theorem dL_law_933 : decode cL_law 933 = .ok (.istore 6, 2) := by decide +kernel
theorem dL_law_935 : decode cL_law 935 = .ok (.aload_n 2, 1) := by decide +kernel
theorem dL_law_936 : decode cL_law 936 = .ok (.invokevirtual 126, 3) := by decide +kernel
theorem dL_law_939 : decode cL_law 939 = .ok (.iload 5, 2) := by decide +kernel
theorem dL_law_941 : decode cL_law 941 = .ok (.if_icmp .eq 5, 3) := by decide +kernel
theorem dL_law_944 : decode cL_law 944 = .ok (.iconst 0, 1) := by decide +kernel
theorem dL_law_945 : decode cL_law 945 = .ok (.ireturn, 1) := by decide +kernel
theorem dL_law_946 : decode cL_law 946 = .ok (.iload 5, 2) := by decide +kernel
theorem dL_law_948 : decode cL_law 948 = .ok (.ifCond .ne 15, 3) := by decide +kernel
theorem dL_law_951 : decode cL_law 951 = .ok (.aload_n 3, 1) := by decide +kernel
theorem dL_law_952 : decode cL_law 952 = .ok (.iconst 0, 1) := by decide +kernel
theorem dL_law_953 : decode cL_law 953 = .ok (.laload, 1) := by decide +kernel
theorem dL_law_954 : decode cL_law 954 = .ok (.iload 6, 2) := by decide +kernel
theorem dL_law_956 : decode cL_law 956 = .ok (.i2l, 1) := by decide +kernel
theorem dL_law_957 : decode cL_law 957 = .ok (.lcmp, 1) := by decide +kernel
theorem dL_law_958 : decode cL_law 958 = .ok (.ifCond .eq 5, 3) := by decide +kernel
theorem dL_law_961 : decode cL_law 961 = .ok (.iconst 0, 1) := by decide +kernel
theorem dL_law_962 : decode cL_law 962 = .ok (.ireturn, 1) := by decide +kernel
theorem dL_law_963 : decode cL_law 963 = .ok (.goto 1430, 3) := by decide +kernel
theorem dL_law_966 : decode cL_law 966 = .ok (.aload_n 1, 1) := by decide +kernel
theorem dL_law_967 : decode cL_law 967 = .ok (.aload_n 0, 1) := by decide +kernel
theorem dL_law_968 : decode cL_law 968 = .ok (.iload 4, 2) := by decide +kernel
theorem dL_law_970 : decode cL_law 970 = .ok (.iconst 1, 1) := by decide +kernel
theorem dL_law_971 : decode cL_law 971 = .ok (.iadd, 1) := by decide +kernel
theorem dL_law_972 : decode cL_law 972 = .ok (.iaload, 1) := by decide +kernel
theorem dL_law_973 : decode cL_law 973 = .ok (.aload_n 0, 1) := by decide +kernel
theorem dL_law_974 : decode cL_law 974 = .ok (.iload 4, 2) := by decide +kernel
theorem dL_law_976 : decode cL_law 976 = .ok (.iconst 2, 1) := by decide +kernel
theorem dL_law_977 : decode cL_law 977 = .ok (.iadd, 1) := by decide +kernel
theorem dL_law_978 : decode cL_law 978 = .ok (.iaload, 1) := by decide +kernel
theorem dL_law_979 : decode cL_law 979 = .ok (.aload_n 0, 1) := by decide +kernel
theorem dL_law_980 : decode cL_law 980 = .ok (.iload 4, 2) := by decide +kernel
theorem dL_law_982 : decode cL_law 982 = .ok (.iconst 3, 1) := by decide +kernel
theorem dL_law_983 : decode cL_law 983 = .ok (.iadd, 1) := by decide +kernel
theorem dL_law_984 : decode cL_law 984 = .ok (.iaload, 1) := by decide +kernel
theorem dL_law_985 : decode cL_law 985 = .ok (.aload_n 3, 1) := by decide +kernel
theorem dL_law_986 : decode cL_law 986 = .ok (.invokestatic 163, 3) := by decide +kernel
theorem dL_law_989 : decode cL_law 989 = .ok (.istore 5, 2) := by decide +kernel
theorem dL_law_991 : decode cL_law 991 = .ok (.aload_n 2, 1) := by decide +kernel
theorem dL_law_992 : decode cL_law 992 = .ok (.aload_n 0, 1) := by decide +kernel
theorem dL_law_993 : decode cL_law 993 = .ok (.iload 4, 2) := by decide +kernel
theorem dL_law_995 : decode cL_law 995 = .ok (.iconst 1, 1) := by decide +kernel
theorem dL_law_996 : decode cL_law 996 = .ok (.iadd, 1) := by decide +kernel
theorem dL_law_997 : decode cL_law 997 = .ok (.iaload, 1) := by decide +kernel
theorem dL_law_998 : decode cL_law 998 = .ok (.aload_n 0, 1) := by decide +kernel
theorem dL_law_999 : decode cL_law 999 = .ok (.iload 4, 2) := by decide +kernel
theorem dL_law_1001 : decode cL_law 1001 = .ok (.iconst 2, 1) := by decide +kernel
theorem dL_law_1002 : decode cL_law 1002 = .ok (.iadd, 1) := by decide +kernel
theorem dL_law_1003 : decode cL_law 1003 = .ok (.iaload, 1) := by decide +kernel
theorem dL_law_1004 : decode cL_law 1004 = .ok (.aload_n 0, 1) := by decide +kernel
theorem dL_law_1005 : decode cL_law 1005 = .ok (.iload 4, 2) := by decide +kernel
theorem dL_law_1007 : decode cL_law 1007 = .ok (.iconst 3, 1) := by decide +kernel
theorem dL_law_1008 : decode cL_law 1008 = .ok (.iadd, 1) := by decide +kernel
theorem dL_law_1009 : decode cL_law 1009 = .ok (.iaload, 1) := by decide +kernel
theorem dL_law_1010 : decode cL_law 1010 = .ok (.invokevirtual 165, 3) := by decide +kernel
theorem dL_law_1013 : decode cL_law 1013 = .ok (.istore 6, 2) := by decide +kernel
theorem dL_law_1015 : decode cL_law 1015 = .ok (.aload_n 2, 1) := by decide +kernel
theorem dL_law_1016 : decode cL_law 1016 = .ok (.invokevirtual 126, 3) := by decide +kernel
theorem dL_law_1019 : decode cL_law 1019 = .ok (.iload 5, 2) := by decide +kernel
theorem dL_law_1021 : decode cL_law 1021 = .ok (.if_icmp .eq 5, 3) := by decide +kernel
theorem dL_law_1024 : decode cL_law 1024 = .ok (.iconst 0, 1) := by decide +kernel
theorem dL_law_1025 : decode cL_law 1025 = .ok (.ireturn, 1) := by decide +kernel
theorem dL_law_1026 : decode cL_law 1026 = .ok (.iload 5, 2) := by decide +kernel
theorem dL_law_1028 : decode cL_law 1028 = .ok (.ifCond .ne 15, 3) := by decide +kernel
theorem dL_law_1031 : decode cL_law 1031 = .ok (.aload_n 3, 1) := by decide +kernel
theorem dL_law_1032 : decode cL_law 1032 = .ok (.iconst 0, 1) := by decide +kernel
theorem dL_law_1033 : decode cL_law 1033 = .ok (.laload, 1) := by decide +kernel
theorem dL_law_1034 : decode cL_law 1034 = .ok (.iload 6, 2) := by decide +kernel
theorem dL_law_1036 : decode cL_law 1036 = .ok (.i2l, 1) := by decide +kernel
theorem dL_law_1037 : decode cL_law 1037 = .ok (.lcmp, 1) := by decide +kernel
theorem dL_law_1038 : decode cL_law 1038 = .ok (.ifCond .eq 5, 3) := by decide +kernel
theorem dL_law_1041 : decode cL_law 1041 = .ok (.iconst 0, 1) := by decide +kernel
theorem dL_law_1042 : decode cL_law 1042 = .ok (.ireturn, 1) := by decide +kernel
theorem dL_law_1043 : decode cL_law 1043 = .ok (.goto 1350, 3) := by decide +kernel
theorem dL_law_1046 : decode cL_law 1046 = .ok (.aload_n 1, 1) := by decide +kernel
theorem dL_law_1047 : decode cL_law 1047 = .ok (.aload_n 0, 1) := by decide +kernel
theorem dL_law_1048 : decode cL_law 1048 = .ok (.iload 4, 2) := by decide +kernel
theorem dL_law_1050 : decode cL_law 1050 = .ok (.iconst 1, 1) := by decide +kernel
theorem dL_law_1051 : decode cL_law 1051 = .ok (.iadd, 1) := by decide +kernel
theorem dL_law_1052 : decode cL_law 1052 = .ok (.iaload, 1) := by decide +kernel
theorem dL_law_1053 : decode cL_law 1053 = .ok (.aload_n 0, 1) := by decide +kernel
theorem dL_law_1054 : decode cL_law 1054 = .ok (.iload 4, 2) := by decide +kernel
theorem dL_law_1056 : decode cL_law 1056 = .ok (.iconst 2, 1) := by decide +kernel
theorem dL_law_1057 : decode cL_law 1057 = .ok (.iadd, 1) := by decide +kernel
theorem dL_law_1058 : decode cL_law 1058 = .ok (.iaload, 1) := by decide +kernel
theorem dL_law_1059 : decode cL_law 1059 = .ok (.aload_n 3, 1) := by decide +kernel
theorem dL_law_1060 : decode cL_law 1060 = .ok (.invokestatic 166, 3) := by decide +kernel
theorem dL_law_1063 : decode cL_law 1063 = .ok (.istore 5, 2) := by decide +kernel
theorem dL_law_1065 : decode cL_law 1065 = .ok (.aload_n 2, 1) := by decide +kernel
theorem dL_law_1066 : decode cL_law 1066 = .ok (.aload_n 0, 1) := by decide +kernel
theorem dL_law_1067 : decode cL_law 1067 = .ok (.iload 4, 2) := by decide +kernel
theorem dL_law_1069 : decode cL_law 1069 = .ok (.iconst 1, 1) := by decide +kernel
theorem dL_law_1070 : decode cL_law 1070 = .ok (.iadd, 1) := by decide +kernel
theorem dL_law_1071 : decode cL_law 1071 = .ok (.iaload, 1) := by decide +kernel
theorem dL_law_1072 : decode cL_law 1072 = .ok (.aload_n 0, 1) := by decide +kernel
theorem dL_law_1073 : decode cL_law 1073 = .ok (.iload 4, 2) := by decide +kernel
theorem dL_law_1075 : decode cL_law 1075 = .ok (.iconst 2, 1) := by decide +kernel
theorem dL_law_1076 : decode cL_law 1076 = .ok (.iadd, 1) := by decide +kernel
theorem dL_law_1077 : decode cL_law 1077 = .ok (.iaload, 1) := by decide +kernel
theorem dL_law_1078 : decode cL_law 1078 = .ok (.invokevirtual 168, 3) := by decide +kernel
theorem dL_law_1081 : decode cL_law 1081 = .ok (.istore 6, 2) := by decide +kernel
theorem dL_law_1083 : decode cL_law 1083 = .ok (.aload_n 2, 1) := by decide +kernel
theorem dL_law_1084 : decode cL_law 1084 = .ok (.invokevirtual 126, 3) := by decide +kernel
theorem dL_law_1087 : decode cL_law 1087 = .ok (.iload 5, 2) := by decide +kernel
theorem dL_law_1089 : decode cL_law 1089 = .ok (.if_icmp .eq 5, 3) := by decide +kernel
theorem dL_law_1092 : decode cL_law 1092 = .ok (.iconst 0, 1) := by decide +kernel
theorem dL_law_1093 : decode cL_law 1093 = .ok (.ireturn, 1) := by decide +kernel
theorem dL_law_1094 : decode cL_law 1094 = .ok (.iload 5, 2) := by decide +kernel
theorem dL_law_1096 : decode cL_law 1096 = .ok (.ifCond .ne 22, 3) := by decide +kernel
theorem dL_law_1099 : decode cL_law 1099 = .ok (.aload_n 3, 1) := by decide +kernel
theorem dL_law_1100 : decode cL_law 1100 = .ok (.iconst 0, 1) := by decide +kernel
theorem dL_law_1101 : decode cL_law 1101 = .ok (.laload, 1) := by decide +kernel
theorem dL_law_1102 : decode cL_law 1102 = .ok (.iload 6, 2) := by decide +kernel
theorem dL_law_1104 : decode cL_law 1104 = .ok (.ifCond .eq 7, 3) := by decide +kernel
theorem dL_law_1107 : decode cL_law 1107 = .ok (.lconst 1, 1) := by decide +kernel
theorem dL_law_1108 : decode cL_law 1108 = .ok (.goto 4, 3) := by decide +kernel
theorem dL_law_1111 : decode cL_law 1111 = .ok (.lconst 0, 1) := by decide +kernel
theorem dL_law_1112 : decode cL_law 1112 = .ok (.lcmp, 1) := by decide +kernel
theorem dL_law_1113 : decode cL_law 1113 = .ok (.ifCond .eq 5, 3) := by decide +kernel
theorem dL_law_1116 : decode cL_law 1116 = .ok (.iconst 0, 1) := by decide +kernel
theorem dL_law_1117 : decode cL_law 1117 = .ok (.ireturn, 1) := by decide +kernel
theorem dL_law_1118 : decode cL_law 1118 = .ok (.goto 1275, 3) := by decide +kernel
theorem dL_law_1121 : decode cL_law 1121 = .ok (.aload_n 1, 1) := by decide +kernel
theorem dL_law_1122 : decode cL_law 1122 = .ok (.aload_n 0, 1) := by decide +kernel
theorem dL_law_1123 : decode cL_law 1123 = .ok (.iload 4, 2) := by decide +kernel
theorem dL_law_1125 : decode cL_law 1125 = .ok (.iconst 1, 1) := by decide +kernel
theorem dL_law_1126 : decode cL_law 1126 = .ok (.iadd, 1) := by decide +kernel
theorem dL_law_1127 : decode cL_law 1127 = .ok (.iaload, 1) := by decide +kernel
theorem dL_law_1128 : decode cL_law 1128 = .ok (.aload_n 0, 1) := by decide +kernel
theorem dL_law_1129 : decode cL_law 1129 = .ok (.iload 4, 2) := by decide +kernel
theorem dL_law_1131 : decode cL_law 1131 = .ok (.iconst 2, 1) := by decide +kernel
theorem dL_law_1132 : decode cL_law 1132 = .ok (.iadd, 1) := by decide +kernel
theorem dL_law_1133 : decode cL_law 1133 = .ok (.iaload, 1) := by decide +kernel
theorem dL_law_1134 : decode cL_law 1134 = .ok (.aload_n 3, 1) := by decide +kernel
theorem dL_law_1135 : decode cL_law 1135 = .ok (.invokestatic 169, 3) := by decide +kernel
theorem dL_law_1138 : decode cL_law 1138 = .ok (.istore 5, 2) := by decide +kernel
theorem dL_law_1140 : decode cL_law 1140 = .ok (.aload_n 2, 1) := by decide +kernel
theorem dL_law_1141 : decode cL_law 1141 = .ok (.aload_n 0, 1) := by decide +kernel
theorem dL_law_1142 : decode cL_law 1142 = .ok (.iload 4, 2) := by decide +kernel
theorem dL_law_1144 : decode cL_law 1144 = .ok (.iconst 1, 1) := by decide +kernel
theorem dL_law_1145 : decode cL_law 1145 = .ok (.iadd, 1) := by decide +kernel
theorem dL_law_1146 : decode cL_law 1146 = .ok (.iaload, 1) := by decide +kernel
theorem dL_law_1147 : decode cL_law 1147 = .ok (.aload_n 0, 1) := by decide +kernel
theorem dL_law_1148 : decode cL_law 1148 = .ok (.iload 4, 2) := by decide +kernel
theorem dL_law_1150 : decode cL_law 1150 = .ok (.iconst 2, 1) := by decide +kernel
theorem dL_law_1151 : decode cL_law 1151 = .ok (.iadd, 1) := by decide +kernel
theorem dL_law_1152 : decode cL_law 1152 = .ok (.iaload, 1) := by decide +kernel
theorem dL_law_1153 : decode cL_law 1153 = .ok (.invokevirtual 171, 3) := by decide +kernel
theorem dL_law_1156 : decode cL_law 1156 = .ok (.istore 6, 2) := by decide +kernel
theorem dL_law_1158 : decode cL_law 1158 = .ok (.aload_n 2, 1) := by decide +kernel
theorem dL_law_1159 : decode cL_law 1159 = .ok (.invokevirtual 126, 3) := by decide +kernel
theorem dL_law_1162 : decode cL_law 1162 = .ok (.iload 5, 2) := by decide +kernel
theorem dL_law_1164 : decode cL_law 1164 = .ok (.if_icmp .eq 5, 3) := by decide +kernel
theorem dL_law_1167 : decode cL_law 1167 = .ok (.iconst 0, 1) := by decide +kernel
theorem dL_law_1168 : decode cL_law 1168 = .ok (.ireturn, 1) := by decide +kernel
theorem dL_law_1169 : decode cL_law 1169 = .ok (.iload 5, 2) := by decide +kernel
theorem dL_law_1171 : decode cL_law 1171 = .ok (.ifCond .ne 15, 3) := by decide +kernel
theorem dL_law_1174 : decode cL_law 1174 = .ok (.aload_n 3, 1) := by decide +kernel
theorem dL_law_1175 : decode cL_law 1175 = .ok (.iconst 0, 1) := by decide +kernel
theorem dL_law_1176 : decode cL_law 1176 = .ok (.laload, 1) := by decide +kernel
theorem dL_law_1177 : decode cL_law 1177 = .ok (.iload 6, 2) := by decide +kernel
theorem dL_law_1179 : decode cL_law 1179 = .ok (.i2l, 1) := by decide +kernel
theorem dL_law_1180 : decode cL_law 1180 = .ok (.lcmp, 1) := by decide +kernel
theorem dL_law_1181 : decode cL_law 1181 = .ok (.ifCond .eq 5, 3) := by decide +kernel
theorem dL_law_1184 : decode cL_law 1184 = .ok (.iconst 0, 1) := by decide +kernel
theorem dL_law_1185 : decode cL_law 1185 = .ok (.ireturn, 1) := by decide +kernel
theorem dL_law_1186 : decode cL_law 1186 = .ok (.goto 1207, 3) := by decide +kernel
theorem dL_law_1189 : decode cL_law 1189 = .ok (.aload_n 1, 1) := by decide +kernel
theorem dL_law_1190 : decode cL_law 1190 = .ok (.aload_n 3, 1) := by decide +kernel
theorem dL_law_1191 : decode cL_law 1191 = .ok (.invokestatic 172, 3) := by decide +kernel
theorem dL_law_1194 : decode cL_law 1194 = .ok (.istore 5, 2) := by decide +kernel
theorem dL_law_1196 : decode cL_law 1196 = .ok (.aload_n 2, 1) := by decide +kernel
theorem dL_law_1197 : decode cL_law 1197 = .ok (.invokevirtual 174, 3) := by decide +kernel
theorem dL_law_1200 : decode cL_law 1200 = .ok (.istore 6, 2) := by decide +kernel
theorem dL_law_1202 : decode cL_law 1202 = .ok (.aload_n 2, 1) := by decide +kernel
theorem dL_law_1203 : decode cL_law 1203 = .ok (.invokevirtual 126, 3) := by decide +kernel
theorem dL_law_1206 : decode cL_law 1206 = .ok (.iload 5, 2) := by decide +kernel
theorem dL_law_1208 : decode cL_law 1208 = .ok (.if_icmp .eq 5, 3) := by decide +kernel
theorem dL_law_1211 : decode cL_law 1211 = .ok (.iconst 0, 1) := by decide +kernel
theorem dL_law_1212 : decode cL_law 1212 = .ok (.ireturn, 1) := by decide +kernel
theorem dL_law_1213 : decode cL_law 1213 = .ok (.iload 5, 2) := by decide +kernel
theorem dL_law_1215 : decode cL_law 1215 = .ok (.ifCond .ne 15, 3) := by decide +kernel
theorem dL_law_1218 : decode cL_law 1218 = .ok (.aload_n 3, 1) := by decide +kernel
theorem dL_law_1219 : decode cL_law 1219 = .ok (.iconst 0, 1) := by decide +kernel
theorem dL_law_1220 : decode cL_law 1220 = .ok (.laload, 1) := by decide +kernel
theorem dL_law_1221 : decode cL_law 1221 = .ok (.iload 6, 2) := by decide +kernel
theorem dL_law_1223 : decode cL_law 1223 = .ok (.i2l, 1) := by decide +kernel
theorem dL_law_1224 : decode cL_law 1224 = .ok (.lcmp, 1) := by decide +kernel
theorem dL_law_1225 : decode cL_law 1225 = .ok (.ifCond .eq 5, 3) := by decide +kernel
theorem dL_law_1228 : decode cL_law 1228 = .ok (.iconst 0, 1) := by decide +kernel
theorem dL_law_1229 : decode cL_law 1229 = .ok (.ireturn, 1) := by decide +kernel
theorem dL_law_1230 : decode cL_law 1230 = .ok (.goto 1163, 3) := by decide +kernel
theorem dL_law_1233 : decode cL_law 1233 = .ok (.aload_n 1, 1) := by decide +kernel
theorem dL_law_1234 : decode cL_law 1234 = .ok (.aload_n 0, 1) := by decide +kernel
theorem dL_law_1235 : decode cL_law 1235 = .ok (.iload 4, 2) := by decide +kernel
theorem dL_law_1237 : decode cL_law 1237 = .ok (.iconst 1, 1) := by decide +kernel
theorem dL_law_1238 : decode cL_law 1238 = .ok (.iadd, 1) := by decide +kernel
theorem dL_law_1239 : decode cL_law 1239 = .ok (.iaload, 1) := by decide +kernel
theorem dL_law_1240 : decode cL_law 1240 = .ok (.aload_n 0, 1) := by decide +kernel
theorem dL_law_1241 : decode cL_law 1241 = .ok (.iload 4, 2) := by decide +kernel
theorem dL_law_1243 : decode cL_law 1243 = .ok (.iconst 2, 1) := by decide +kernel
theorem dL_law_1244 : decode cL_law 1244 = .ok (.iadd, 1) := by decide +kernel
theorem dL_law_1245 : decode cL_law 1245 = .ok (.iaload, 1) := by decide +kernel
theorem dL_law_1246 : decode cL_law 1246 = .ok (.aload_n 0, 1) := by decide +kernel
theorem dL_law_1247 : decode cL_law 1247 = .ok (.iload 4, 2) := by decide +kernel
theorem dL_law_1249 : decode cL_law 1249 = .ok (.iconst 3, 1) := by decide +kernel
theorem dL_law_1250 : decode cL_law 1250 = .ok (.iadd, 1) := by decide +kernel
theorem dL_law_1251 : decode cL_law 1251 = .ok (.iaload, 1) := by decide +kernel
theorem dL_law_1252 : decode cL_law 1252 = .ok (.aload_n 3, 1) := by decide +kernel
theorem dL_law_1253 : decode cL_law 1253 = .ok (.invokestatic 175, 3) := by decide +kernel
theorem dL_law_1256 : decode cL_law 1256 = .ok (.istore 5, 2) := by decide +kernel
theorem dL_law_1258 : decode cL_law 1258 = .ok (.aload_n 2, 1) := by decide +kernel
theorem dL_law_1259 : decode cL_law 1259 = .ok (.aload_n 0, 1) := by decide +kernel
theorem dL_law_1260 : decode cL_law 1260 = .ok (.iload 4, 2) := by decide +kernel
theorem dL_law_1262 : decode cL_law 1262 = .ok (.iconst 1, 1) := by decide +kernel
theorem dL_law_1263 : decode cL_law 1263 = .ok (.iadd, 1) := by decide +kernel
theorem dL_law_1264 : decode cL_law 1264 = .ok (.iaload, 1) := by decide +kernel
theorem dL_law_1265 : decode cL_law 1265 = .ok (.aload_n 0, 1) := by decide +kernel
theorem dL_law_1266 : decode cL_law 1266 = .ok (.iload 4, 2) := by decide +kernel
theorem dL_law_1268 : decode cL_law 1268 = .ok (.iconst 2, 1) := by decide +kernel
theorem dL_law_1269 : decode cL_law 1269 = .ok (.iadd, 1) := by decide +kernel
theorem dL_law_1270 : decode cL_law 1270 = .ok (.iaload, 1) := by decide +kernel
theorem dL_law_1271 : decode cL_law 1271 = .ok (.aload_n 0, 1) := by decide +kernel
theorem dL_law_1272 : decode cL_law 1272 = .ok (.iload 4, 2) := by decide +kernel
theorem dL_law_1274 : decode cL_law 1274 = .ok (.iconst 3, 1) := by decide +kernel
theorem dL_law_1275 : decode cL_law 1275 = .ok (.iadd, 1) := by decide +kernel
theorem dL_law_1276 : decode cL_law 1276 = .ok (.iaload, 1) := by decide +kernel
theorem dL_law_1277 : decode cL_law 1277 = .ok (.invokevirtual 177, 3) := by decide +kernel
theorem dL_law_1280 : decode cL_law 1280 = .ok (.istore 6, 2) := by decide +kernel
theorem dL_law_1282 : decode cL_law 1282 = .ok (.aload_n 2, 1) := by decide +kernel
theorem dL_law_1283 : decode cL_law 1283 = .ok (.invokevirtual 126, 3) := by decide +kernel
theorem dL_law_1286 : decode cL_law 1286 = .ok (.iload 5, 2) := by decide +kernel
theorem dL_law_1288 : decode cL_law 1288 = .ok (.if_icmp .eq 5, 3) := by decide +kernel
theorem dL_law_1291 : decode cL_law 1291 = .ok (.iconst 0, 1) := by decide +kernel
theorem dL_law_1292 : decode cL_law 1292 = .ok (.ireturn, 1) := by decide +kernel
theorem dL_law_1293 : decode cL_law 1293 = .ok (.iload 5, 2) := by decide +kernel
theorem dL_law_1295 : decode cL_law 1295 = .ok (.ifCond .ne 15, 3) := by decide +kernel
theorem dL_law_1298 : decode cL_law 1298 = .ok (.aload_n 3, 1) := by decide +kernel
theorem dL_law_1299 : decode cL_law 1299 = .ok (.iconst 0, 1) := by decide +kernel
theorem dL_law_1300 : decode cL_law 1300 = .ok (.laload, 1) := by decide +kernel
theorem dL_law_1301 : decode cL_law 1301 = .ok (.iload 6, 2) := by decide +kernel
theorem dL_law_1303 : decode cL_law 1303 = .ok (.i2l, 1) := by decide +kernel
theorem dL_law_1304 : decode cL_law 1304 = .ok (.lcmp, 1) := by decide +kernel
theorem dL_law_1305 : decode cL_law 1305 = .ok (.ifCond .eq 5, 3) := by decide +kernel
theorem dL_law_1308 : decode cL_law 1308 = .ok (.iconst 0, 1) := by decide +kernel
theorem dL_law_1309 : decode cL_law 1309 = .ok (.ireturn, 1) := by decide +kernel
theorem dL_law_1310 : decode cL_law 1310 = .ok (.goto 1083, 3) := by decide +kernel
theorem dL_law_1313 : decode cL_law 1313 = .ok (.aload_n 1, 1) := by decide +kernel
theorem dL_law_1314 : decode cL_law 1314 = .ok (.aload_n 0, 1) := by decide +kernel
theorem dL_law_1315 : decode cL_law 1315 = .ok (.iload 4, 2) := by decide +kernel
theorem dL_law_1317 : decode cL_law 1317 = .ok (.iconst 1, 1) := by decide +kernel
theorem dL_law_1318 : decode cL_law 1318 = .ok (.iadd, 1) := by decide +kernel
theorem dL_law_1319 : decode cL_law 1319 = .ok (.iaload, 1) := by decide +kernel
theorem dL_law_1320 : decode cL_law 1320 = .ok (.aload_n 0, 1) := by decide +kernel
theorem dL_law_1321 : decode cL_law 1321 = .ok (.iload 4, 2) := by decide +kernel
theorem dL_law_1323 : decode cL_law 1323 = .ok (.iconst 2, 1) := by decide +kernel
theorem dL_law_1324 : decode cL_law 1324 = .ok (.iadd, 1) := by decide +kernel
theorem dL_law_1325 : decode cL_law 1325 = .ok (.iaload, 1) := by decide +kernel
theorem dL_law_1326 : decode cL_law 1326 = .ok (.aload_n 3, 1) := by decide +kernel
theorem dL_law_1327 : decode cL_law 1327 = .ok (.invokestatic 178, 3) := by decide +kernel
theorem dL_law_1330 : decode cL_law 1330 = .ok (.istore 5, 2) := by decide +kernel
theorem dL_law_1332 : decode cL_law 1332 = .ok (.aload_n 2, 1) := by decide +kernel
theorem dL_law_1333 : decode cL_law 1333 = .ok (.aload_n 0, 1) := by decide +kernel
theorem dL_law_1334 : decode cL_law 1334 = .ok (.iload 4, 2) := by decide +kernel
theorem dL_law_1336 : decode cL_law 1336 = .ok (.iconst 1, 1) := by decide +kernel
theorem dL_law_1337 : decode cL_law 1337 = .ok (.iadd, 1) := by decide +kernel
theorem dL_law_1338 : decode cL_law 1338 = .ok (.iaload, 1) := by decide +kernel
theorem dL_law_1339 : decode cL_law 1339 = .ok (.aload_n 0, 1) := by decide +kernel
theorem dL_law_1340 : decode cL_law 1340 = .ok (.iload 4, 2) := by decide +kernel
theorem dL_law_1342 : decode cL_law 1342 = .ok (.iconst 2, 1) := by decide +kernel
theorem dL_law_1343 : decode cL_law 1343 = .ok (.iadd, 1) := by decide +kernel
theorem dL_law_1344 : decode cL_law 1344 = .ok (.iaload, 1) := by decide +kernel
theorem dL_law_1345 : decode cL_law 1345 = .ok (.invokevirtual 180, 3) := by decide +kernel
theorem dL_law_1348 : decode cL_law 1348 = .ok (.istore 6, 2) := by decide +kernel
theorem dL_law_1350 : decode cL_law 1350 = .ok (.aload_n 2, 1) := by decide +kernel
theorem dL_law_1351 : decode cL_law 1351 = .ok (.invokevirtual 126, 3) := by decide +kernel
theorem dL_law_1354 : decode cL_law 1354 = .ok (.iload 5, 2) := by decide +kernel
theorem dL_law_1356 : decode cL_law 1356 = .ok (.if_icmp .eq 5, 3) := by decide +kernel
theorem dL_law_1359 : decode cL_law 1359 = .ok (.iconst 0, 1) := by decide +kernel
theorem dL_law_1360 : decode cL_law 1360 = .ok (.ireturn, 1) := by decide +kernel
theorem dL_law_1361 : decode cL_law 1361 = .ok (.iload 5, 2) := by decide +kernel
theorem dL_law_1363 : decode cL_law 1363 = .ok (.ifCond .ne 15, 3) := by decide +kernel
theorem dL_law_1366 : decode cL_law 1366 = .ok (.aload_n 3, 1) := by decide +kernel
theorem dL_law_1367 : decode cL_law 1367 = .ok (.iconst 0, 1) := by decide +kernel
theorem dL_law_1368 : decode cL_law 1368 = .ok (.laload, 1) := by decide +kernel
theorem dL_law_1369 : decode cL_law 1369 = .ok (.iload 6, 2) := by decide +kernel
theorem dL_law_1371 : decode cL_law 1371 = .ok (.i2l, 1) := by decide +kernel
theorem dL_law_1372 : decode cL_law 1372 = .ok (.lcmp, 1) := by decide +kernel
theorem dL_law_1373 : decode cL_law 1373 = .ok (.ifCond .eq 5, 3) := by decide +kernel
theorem dL_law_1376 : decode cL_law 1376 = .ok (.iconst 0, 1) := by decide +kernel
theorem dL_law_1377 : decode cL_law 1377 = .ok (.ireturn, 1) := by decide +kernel
theorem dL_law_1378 : decode cL_law 1378 = .ok (.goto 1015, 3) := by decide +kernel
theorem dL_law_1381 : decode cL_law 1381 = .ok (.aload_n 1, 1) := by decide +kernel
theorem dL_law_1382 : decode cL_law 1382 = .ok (.aload_n 0, 1) := by decide +kernel
theorem dL_law_1383 : decode cL_law 1383 = .ok (.iload 4, 2) := by decide +kernel
theorem dL_law_1385 : decode cL_law 1385 = .ok (.iconst 1, 1) := by decide +kernel
theorem dL_law_1386 : decode cL_law 1386 = .ok (.iadd, 1) := by decide +kernel
theorem dL_law_1387 : decode cL_law 1387 = .ok (.iaload, 1) := by decide +kernel
theorem dL_law_1388 : decode cL_law 1388 = .ok (.aload_n 0, 1) := by decide +kernel
theorem dL_law_1389 : decode cL_law 1389 = .ok (.iload 4, 2) := by decide +kernel
theorem dL_law_1391 : decode cL_law 1391 = .ok (.iconst 2, 1) := by decide +kernel
theorem dL_law_1392 : decode cL_law 1392 = .ok (.iadd, 1) := by decide +kernel
theorem dL_law_1393 : decode cL_law 1393 = .ok (.iaload, 1) := by decide +kernel
theorem dL_law_1394 : decode cL_law 1394 = .ok (.aload_n 3, 1) := by decide +kernel
theorem dL_law_1395 : decode cL_law 1395 = .ok (.invokestatic 181, 3) := by decide +kernel
theorem dL_law_1398 : decode cL_law 1398 = .ok (.istore 5, 2) := by decide +kernel
theorem dL_law_1400 : decode cL_law 1400 = .ok (.aload_n 2, 1) := by decide +kernel
theorem dL_law_1401 : decode cL_law 1401 = .ok (.aload_n 0, 1) := by decide +kernel
theorem dL_law_1402 : decode cL_law 1402 = .ok (.iload 4, 2) := by decide +kernel
theorem dL_law_1404 : decode cL_law 1404 = .ok (.iconst 1, 1) := by decide +kernel
theorem dL_law_1405 : decode cL_law 1405 = .ok (.iadd, 1) := by decide +kernel
theorem dL_law_1406 : decode cL_law 1406 = .ok (.iaload, 1) := by decide +kernel
theorem dL_law_1407 : decode cL_law 1407 = .ok (.aload_n 0, 1) := by decide +kernel
theorem dL_law_1408 : decode cL_law 1408 = .ok (.iload 4, 2) := by decide +kernel
theorem dL_law_1410 : decode cL_law 1410 = .ok (.iconst 2, 1) := by decide +kernel
theorem dL_law_1411 : decode cL_law 1411 = .ok (.iadd, 1) := by decide +kernel
theorem dL_law_1412 : decode cL_law 1412 = .ok (.iaload, 1) := by decide +kernel
theorem dL_law_1413 : decode cL_law 1413 = .ok (.invokevirtual 183, 3) := by decide +kernel
theorem dL_law_1416 : decode cL_law 1416 = .ok (.istore 6, 2) := by decide +kernel
theorem dL_law_1418 : decode cL_law 1418 = .ok (.aload_n 2, 1) := by decide +kernel
theorem dL_law_1419 : decode cL_law 1419 = .ok (.invokevirtual 126, 3) := by decide +kernel
theorem dL_law_1422 : decode cL_law 1422 = .ok (.iload 5, 2) := by decide +kernel
theorem dL_law_1424 : decode cL_law 1424 = .ok (.if_icmp .eq 5, 3) := by decide +kernel
theorem dL_law_1427 : decode cL_law 1427 = .ok (.iconst 0, 1) := by decide +kernel
theorem dL_law_1428 : decode cL_law 1428 = .ok (.ireturn, 1) := by decide +kernel
theorem dL_law_1429 : decode cL_law 1429 = .ok (.iload 5, 2) := by decide +kernel
theorem dL_law_1431 : decode cL_law 1431 = .ok (.ifCond .ne 15, 3) := by decide +kernel
theorem dL_law_1434 : decode cL_law 1434 = .ok (.aload_n 3, 1) := by decide +kernel
theorem dL_law_1435 : decode cL_law 1435 = .ok (.iconst 0, 1) := by decide +kernel
theorem dL_law_1436 : decode cL_law 1436 = .ok (.laload, 1) := by decide +kernel
theorem dL_law_1437 : decode cL_law 1437 = .ok (.iload 6, 2) := by decide +kernel
theorem dL_law_1439 : decode cL_law 1439 = .ok (.i2l, 1) := by decide +kernel
theorem dL_law_1440 : decode cL_law 1440 = .ok (.lcmp, 1) := by decide +kernel
theorem dL_law_1441 : decode cL_law 1441 = .ok (.ifCond .eq 5, 3) := by decide +kernel
theorem dL_law_1444 : decode cL_law 1444 = .ok (.iconst 0, 1) := by decide +kernel
theorem dL_law_1445 : decode cL_law 1445 = .ok (.ireturn, 1) := by decide +kernel
theorem dL_law_1446 : decode cL_law 1446 = .ok (.goto 947, 3) := by decide +kernel
theorem dL_law_1449 : decode cL_law 1449 = .ok (.aload_n 1, 1) := by decide +kernel
theorem dL_law_1450 : decode cL_law 1450 = .ok (.aload_n 0, 1) := by decide +kernel
theorem dL_law_1451 : decode cL_law 1451 = .ok (.iload 4, 2) := by decide +kernel
theorem dL_law_1453 : decode cL_law 1453 = .ok (.iconst 1, 1) := by decide +kernel
theorem dL_law_1454 : decode cL_law 1454 = .ok (.iadd, 1) := by decide +kernel
theorem dL_law_1455 : decode cL_law 1455 = .ok (.iaload, 1) := by decide +kernel
theorem dL_law_1456 : decode cL_law 1456 = .ok (.aload_n 0, 1) := by decide +kernel
theorem dL_law_1457 : decode cL_law 1457 = .ok (.iload 4, 2) := by decide +kernel
theorem dL_law_1459 : decode cL_law 1459 = .ok (.iconst 2, 1) := by decide +kernel
theorem dL_law_1460 : decode cL_law 1460 = .ok (.iadd, 1) := by decide +kernel
theorem dL_law_1461 : decode cL_law 1461 = .ok (.iaload, 1) := by decide +kernel
theorem dL_law_1462 : decode cL_law 1462 = .ok (.aload_n 0, 1) := by decide +kernel
theorem dL_law_1463 : decode cL_law 1463 = .ok (.iload 4, 2) := by decide +kernel
theorem dL_law_1465 : decode cL_law 1465 = .ok (.iconst 3, 1) := by decide +kernel
theorem dL_law_1466 : decode cL_law 1466 = .ok (.iadd, 1) := by decide +kernel
theorem dL_law_1467 : decode cL_law 1467 = .ok (.iaload, 1) := by decide +kernel
theorem dL_law_1468 : decode cL_law 1468 = .ok (.aload_n 3, 1) := by decide +kernel
theorem dL_law_1469 : decode cL_law 1469 = .ok (.invokestatic 184, 3) := by decide +kernel
theorem dL_law_1472 : decode cL_law 1472 = .ok (.istore 5, 2) := by decide +kernel
theorem dL_law_1474 : decode cL_law 1474 = .ok (.aload_n 2, 1) := by decide +kernel
theorem dL_law_1475 : decode cL_law 1475 = .ok (.aload_n 0, 1) := by decide +kernel
theorem dL_law_1476 : decode cL_law 1476 = .ok (.iload 4, 2) := by decide +kernel
theorem dL_law_1478 : decode cL_law 1478 = .ok (.iconst 1, 1) := by decide +kernel
theorem dL_law_1479 : decode cL_law 1479 = .ok (.iadd, 1) := by decide +kernel
theorem dL_law_1480 : decode cL_law 1480 = .ok (.iaload, 1) := by decide +kernel
theorem dL_law_1481 : decode cL_law 1481 = .ok (.aload_n 0, 1) := by decide +kernel
theorem dL_law_1482 : decode cL_law 1482 = .ok (.iload 4, 2) := by decide +kernel
theorem dL_law_1484 : decode cL_law 1484 = .ok (.iconst 2, 1) := by decide +kernel
theorem dL_law_1485 : decode cL_law 1485 = .ok (.iadd, 1) := by decide +kernel
theorem dL_law_1486 : decode cL_law 1486 = .ok (.iaload, 1) := by decide +kernel
theorem dL_law_1487 : decode cL_law 1487 = .ok (.aload_n 0, 1) := by decide +kernel
theorem dL_law_1488 : decode cL_law 1488 = .ok (.iload 4, 2) := by decide +kernel
theorem dL_law_1490 : decode cL_law 1490 = .ok (.iconst 3, 1) := by decide +kernel
theorem dL_law_1491 : decode cL_law 1491 = .ok (.iadd, 1) := by decide +kernel
theorem dL_law_1492 : decode cL_law 1492 = .ok (.iaload, 1) := by decide +kernel
theorem dL_law_1493 : decode cL_law 1493 = .ok (.invokevirtual 186, 3) := by decide +kernel
theorem dL_law_1496 : decode cL_law 1496 = .ok (.istore 6, 2) := by decide +kernel
theorem dL_law_1498 : decode cL_law 1498 = .ok (.aload_n 2, 1) := by decide +kernel
theorem dL_law_1499 : decode cL_law 1499 = .ok (.invokevirtual 126, 3) := by decide +kernel
theorem dL_law_1502 : decode cL_law 1502 = .ok (.iload 5, 2) := by decide +kernel
theorem dL_law_1504 : decode cL_law 1504 = .ok (.if_icmp .eq 5, 3) := by decide +kernel
theorem dL_law_1507 : decode cL_law 1507 = .ok (.iconst 0, 1) := by decide +kernel
theorem dL_law_1508 : decode cL_law 1508 = .ok (.ireturn, 1) := by decide +kernel
theorem dL_law_1509 : decode cL_law 1509 = .ok (.iload 5, 2) := by decide +kernel
theorem dL_law_1511 : decode cL_law 1511 = .ok (.ifCond .ne 15, 3) := by decide +kernel
theorem dL_law_1514 : decode cL_law 1514 = .ok (.aload_n 3, 1) := by decide +kernel
theorem dL_law_1515 : decode cL_law 1515 = .ok (.iconst 0, 1) := by decide +kernel
theorem dL_law_1516 : decode cL_law 1516 = .ok (.laload, 1) := by decide +kernel
theorem dL_law_1517 : decode cL_law 1517 = .ok (.iload 6, 2) := by decide +kernel
theorem dL_law_1519 : decode cL_law 1519 = .ok (.i2l, 1) := by decide +kernel
theorem dL_law_1520 : decode cL_law 1520 = .ok (.lcmp, 1) := by decide +kernel
theorem dL_law_1521 : decode cL_law 1521 = .ok (.ifCond .eq 5, 3) := by decide +kernel
theorem dL_law_1524 : decode cL_law 1524 = .ok (.iconst 0, 1) := by decide +kernel
theorem dL_law_1525 : decode cL_law 1525 = .ok (.ireturn, 1) := by decide +kernel
theorem dL_law_1526 : decode cL_law 1526 = .ok (.goto 867, 3) := by decide +kernel
theorem dL_law_1529 : decode cL_law 1529 = .ok (.aload_n 1, 1) := by decide +kernel
theorem dL_law_1530 : decode cL_law 1530 = .ok (.aload_n 0, 1) := by decide +kernel
theorem dL_law_1531 : decode cL_law 1531 = .ok (.iload 4, 2) := by decide +kernel
theorem dL_law_1533 : decode cL_law 1533 = .ok (.iconst 1, 1) := by decide +kernel
theorem dL_law_1534 : decode cL_law 1534 = .ok (.iadd, 1) := by decide +kernel
theorem dL_law_1535 : decode cL_law 1535 = .ok (.iaload, 1) := by decide +kernel
theorem dL_law_1536 : decode cL_law 1536 = .ok (.aload_n 3, 1) := by decide +kernel
theorem dL_law_1537 : decode cL_law 1537 = .ok (.invokestatic 187, 3) := by decide +kernel
theorem dL_law_1540 : decode cL_law 1540 = .ok (.istore 5, 2) := by decide +kernel
theorem dL_law_1542 : decode cL_law 1542 = .ok (.aload_n 2, 1) := by decide +kernel
theorem dL_law_1543 : decode cL_law 1543 = .ok (.aload_n 0, 1) := by decide +kernel
theorem dL_law_1544 : decode cL_law 1544 = .ok (.iload 4, 2) := by decide +kernel
theorem dL_law_1546 : decode cL_law 1546 = .ok (.iconst 1, 1) := by decide +kernel
theorem dL_law_1547 : decode cL_law 1547 = .ok (.iadd, 1) := by decide +kernel
theorem dL_law_1548 : decode cL_law 1548 = .ok (.iaload, 1) := by decide +kernel
theorem dL_law_1549 : decode cL_law 1549 = .ok (.invokevirtual 189, 3) := by decide +kernel
theorem dL_law_1552 : decode cL_law 1552 = .ok (.istore 6, 2) := by decide +kernel
theorem dL_law_1554 : decode cL_law 1554 = .ok (.aload_n 2, 1) := by decide +kernel
theorem dL_law_1555 : decode cL_law 1555 = .ok (.invokevirtual 126, 3) := by decide +kernel
theorem dL_law_1558 : decode cL_law 1558 = .ok (.iload 5, 2) := by decide +kernel
theorem dL_law_1560 : decode cL_law 1560 = .ok (.if_icmp .eq 5, 3) := by decide +kernel
theorem dL_law_1563 : decode cL_law 1563 = .ok (.iconst 0, 1) := by decide +kernel
theorem dL_law_1564 : decode cL_law 1564 = .ok (.ireturn, 1) := by decide +kernel
theorem dL_law_1565 : decode cL_law 1565 = .ok (.iload 5, 2) := by decide +kernel
theorem dL_law_1567 : decode cL_law 1567 = .ok (.ifCond .ne 15, 3) := by decide +kernel
theorem dL_law_1570 : decode cL_law 1570 = .ok (.aload_n 3, 1) := by decide +kernel
theorem dL_law_1571 : decode cL_law 1571 = .ok (.iconst 0, 1) := by decide +kernel
theorem dL_law_1572 : decode cL_law 1572 = .ok (.laload, 1) := by decide +kernel
theorem dL_law_1573 : decode cL_law 1573 = .ok (.iload 6, 2) := by decide +kernel
theorem dL_law_1575 : decode cL_law 1575 = .ok (.i2l, 1) := by decide +kernel
theorem dL_law_1576 : decode cL_law 1576 = .ok (.lcmp, 1) := by decide +kernel
theorem dL_law_1577 : decode cL_law 1577 = .ok (.ifCond .eq 5, 3) := by decide +kernel
theorem dL_law_1580 : decode cL_law 1580 = .ok (.iconst 0, 1) := by decide +kernel
theorem dL_law_1581 : decode cL_law 1581 = .ok (.ireturn, 1) := by decide +kernel
theorem dL_law_1582 : decode cL_law 1582 = .ok (.goto 811, 3) := by decide +kernel
theorem dL_law_1585 : decode cL_law 1585 = .ok (.aload_n 1, 1) := by decide +kernel
theorem dL_law_1586 : decode cL_law 1586 = .ok (.aload_n 0, 1) := by decide +kernel
theorem dL_law_1587 : decode cL_law 1587 = .ok (.iload 4, 2) := by decide +kernel
theorem dL_law_1589 : decode cL_law 1589 = .ok (.iconst 1, 1) := by decide +kernel
theorem dL_law_1590 : decode cL_law 1590 = .ok (.iadd, 1) := by decide +kernel
theorem dL_law_1591 : decode cL_law 1591 = .ok (.iaload, 1) := by decide +kernel
theorem dL_law_1592 : decode cL_law 1592 = .ok (.aload_n 0, 1) := by decide +kernel
theorem dL_law_1593 : decode cL_law 1593 = .ok (.iload 4, 2) := by decide +kernel
theorem dL_law_1595 : decode cL_law 1595 = .ok (.iconst 2, 1) := by decide +kernel
theorem dL_law_1596 : decode cL_law 1596 = .ok (.iadd, 1) := by decide +kernel
theorem dL_law_1597 : decode cL_law 1597 = .ok (.iaload, 1) := by decide +kernel
theorem dL_law_1598 : decode cL_law 1598 = .ok (.aload_n 0, 1) := by decide +kernel
theorem dL_law_1599 : decode cL_law 1599 = .ok (.iload 4, 2) := by decide +kernel
theorem dL_law_1601 : decode cL_law 1601 = .ok (.iconst 3, 1) := by decide +kernel
theorem dL_law_1602 : decode cL_law 1602 = .ok (.iadd, 1) := by decide +kernel
theorem dL_law_1603 : decode cL_law 1603 = .ok (.iaload, 1) := by decide +kernel
theorem dL_law_1604 : decode cL_law 1604 = .ok (.aload_n 0, 1) := by decide +kernel
theorem dL_law_1605 : decode cL_law 1605 = .ok (.iload 4, 2) := by decide +kernel
theorem dL_law_1607 : decode cL_law 1607 = .ok (.iconst 4, 1) := by decide +kernel
theorem dL_law_1608 : decode cL_law 1608 = .ok (.iadd, 1) := by decide +kernel
theorem dL_law_1609 : decode cL_law 1609 = .ok (.iaload, 1) := by decide +kernel
theorem dL_law_1610 : decode cL_law 1610 = .ok (.aload_n 3, 1) := by decide +kernel
theorem dL_law_1611 : decode cL_law 1611 = .ok (.invokestatic 190, 3) := by decide +kernel
theorem dL_law_1614 : decode cL_law 1614 = .ok (.istore 5, 2) := by decide +kernel
theorem dL_law_1616 : decode cL_law 1616 = .ok (.aload_n 2, 1) := by decide +kernel
theorem dL_law_1617 : decode cL_law 1617 = .ok (.aload_n 0, 1) := by decide +kernel
theorem dL_law_1618 : decode cL_law 1618 = .ok (.iload 4, 2) := by decide +kernel
theorem dL_law_1620 : decode cL_law 1620 = .ok (.iconst 1, 1) := by decide +kernel
theorem dL_law_1621 : decode cL_law 1621 = .ok (.iadd, 1) := by decide +kernel
theorem dL_law_1622 : decode cL_law 1622 = .ok (.iaload, 1) := by decide +kernel
theorem dL_law_1623 : decode cL_law 1623 = .ok (.aload_n 0, 1) := by decide +kernel
theorem dL_law_1624 : decode cL_law 1624 = .ok (.iload 4, 2) := by decide +kernel
theorem dL_law_1626 : decode cL_law 1626 = .ok (.iconst 2, 1) := by decide +kernel
theorem dL_law_1627 : decode cL_law 1627 = .ok (.iadd, 1) := by decide +kernel
theorem dL_law_1628 : decode cL_law 1628 = .ok (.iaload, 1) := by decide +kernel
theorem dL_law_1629 : decode cL_law 1629 = .ok (.aload_n 0, 1) := by decide +kernel
theorem dL_law_1630 : decode cL_law 1630 = .ok (.iload 4, 2) := by decide +kernel
theorem dL_law_1632 : decode cL_law 1632 = .ok (.iconst 3, 1) := by decide +kernel
theorem dL_law_1633 : decode cL_law 1633 = .ok (.iadd, 1) := by decide +kernel
theorem dL_law_1634 : decode cL_law 1634 = .ok (.iaload, 1) := by decide +kernel
theorem dL_law_1635 : decode cL_law 1635 = .ok (.aload_n 0, 1) := by decide +kernel
theorem dL_law_1636 : decode cL_law 1636 = .ok (.iload 4, 2) := by decide +kernel
theorem dL_law_1638 : decode cL_law 1638 = .ok (.iconst 4, 1) := by decide +kernel
theorem dL_law_1639 : decode cL_law 1639 = .ok (.iadd, 1) := by decide +kernel
theorem dL_law_1640 : decode cL_law 1640 = .ok (.iaload, 1) := by decide +kernel
theorem dL_law_1641 : decode cL_law 1641 = .ok (.invokevirtual 193, 3) := by decide +kernel
theorem dL_law_1644 : decode cL_law 1644 = .ok (.istore 6, 2) := by decide +kernel
theorem dL_law_1646 : decode cL_law 1646 = .ok (.aload_n 2, 1) := by decide +kernel
theorem dL_law_1647 : decode cL_law 1647 = .ok (.invokevirtual 126, 3) := by decide +kernel
theorem dL_law_1650 : decode cL_law 1650 = .ok (.iload 5, 2) := by decide +kernel
theorem dL_law_1652 : decode cL_law 1652 = .ok (.if_icmp .eq 5, 3) := by decide +kernel
theorem dL_law_1655 : decode cL_law 1655 = .ok (.iconst 0, 1) := by decide +kernel
theorem dL_law_1656 : decode cL_law 1656 = .ok (.ireturn, 1) := by decide +kernel
theorem dL_law_1657 : decode cL_law 1657 = .ok (.iload 5, 2) := by decide +kernel
theorem dL_law_1659 : decode cL_law 1659 = .ok (.ifCond .ne 15, 3) := by decide +kernel
theorem dL_law_1662 : decode cL_law 1662 = .ok (.aload_n 3, 1) := by decide +kernel
theorem dL_law_1663 : decode cL_law 1663 = .ok (.iconst 0, 1) := by decide +kernel
theorem dL_law_1664 : decode cL_law 1664 = .ok (.laload, 1) := by decide +kernel
theorem dL_law_1665 : decode cL_law 1665 = .ok (.iload 6, 2) := by decide +kernel
theorem dL_law_1667 : decode cL_law 1667 = .ok (.i2l, 1) := by decide +kernel
theorem dL_law_1668 : decode cL_law 1668 = .ok (.lcmp, 1) := by decide +kernel
theorem dL_law_1669 : decode cL_law 1669 = .ok (.ifCond .eq 5, 3) := by decide +kernel
theorem dL_law_1672 : decode cL_law 1672 = .ok (.iconst 0, 1) := by decide +kernel
theorem dL_law_1673 : decode cL_law 1673 = .ok (.ireturn, 1) := by decide +kernel
theorem dL_law_1674 : decode cL_law 1674 = .ok (.goto 719, 3) := by decide +kernel
theorem dL_law_1677 : decode cL_law 1677 = .ok (.aload_n 1, 1) := by decide +kernel
theorem dL_law_1678 : decode cL_law 1678 = .ok (.aload_n 0, 1) := by decide +kernel
theorem dL_law_1679 : decode cL_law 1679 = .ok (.iload 4, 2) := by decide +kernel
theorem dL_law_1681 : decode cL_law 1681 = .ok (.iconst 1, 1) := by decide +kernel
theorem dL_law_1682 : decode cL_law 1682 = .ok (.iadd, 1) := by decide +kernel
theorem dL_law_1683 : decode cL_law 1683 = .ok (.iaload, 1) := by decide +kernel
theorem dL_law_1684 : decode cL_law 1684 = .ok (.invokevirtual 194, 3) := by decide +kernel
theorem dL_law_1687 : decode cL_law 1687 = .ok (.aload_n 2, 1) := by decide +kernel
theorem dL_law_1688 : decode cL_law 1688 = .ok (.aload_n 0, 1) := by decide +kernel
theorem dL_law_1689 : decode cL_law 1689 = .ok (.iload 4, 2) := by decide +kernel
theorem dL_law_1691 : decode cL_law 1691 = .ok (.iconst 1, 1) := by decide +kernel
theorem dL_law_1692 : decode cL_law 1692 = .ok (.iadd, 1) := by decide +kernel
theorem dL_law_1693 : decode cL_law 1693 = .ok (.iaload, 1) := by decide +kernel
theorem dL_law_1694 : decode cL_law 1694 = .ok (.invokevirtual 197, 3) := by decide +kernel
theorem dL_law_1697 : decode cL_law 1697 = .ok (.if_icmp .eq 696, 3) := by decide +kernel
theorem dL_law_1700 : decode cL_law 1700 = .ok (.iconst 0, 1) := by decide +kernel
theorem dL_law_1701 : decode cL_law 1701 = .ok (.ireturn, 1) := by decide +kernel
theorem dL_law_1702 : decode cL_law 1702 = .ok (.aload_n 1, 1) := by decide +kernel
theorem dL_law_1703 : decode cL_law 1703 = .ok (.aload_n 0, 1) := by decide +kernel
theorem dL_law_1704 : decode cL_law 1704 = .ok (.iload 4, 2) := by decide +kernel
theorem dL_law_1706 : decode cL_law 1706 = .ok (.iconst 1, 1) := by decide +kernel
theorem dL_law_1707 : decode cL_law 1707 = .ok (.iadd, 1) := by decide +kernel
theorem dL_law_1708 : decode cL_law 1708 = .ok (.iaload, 1) := by decide +kernel
theorem dL_law_1709 : decode cL_law 1709 = .ok (.aload_n 0, 1) := by decide +kernel
theorem dL_law_1710 : decode cL_law 1710 = .ok (.iload 4, 2) := by decide +kernel
theorem dL_law_1712 : decode cL_law 1712 = .ok (.iconst 2, 1) := by decide +kernel
theorem dL_law_1713 : decode cL_law 1713 = .ok (.iadd, 1) := by decide +kernel
theorem dL_law_1714 : decode cL_law 1714 = .ok (.iaload, 1) := by decide +kernel
theorem dL_law_1715 : decode cL_law 1715 = .ok (.aload_n 3, 1) := by decide +kernel
theorem dL_law_1716 : decode cL_law 1716 = .ok (.invokestatic 198, 3) := by decide +kernel
theorem dL_law_1719 : decode cL_law 1719 = .ok (.istore 5, 2) := by decide +kernel
theorem dL_law_1721 : decode cL_law 1721 = .ok (.aload_n 2, 1) := by decide +kernel
theorem dL_law_1722 : decode cL_law 1722 = .ok (.aload_n 0, 1) := by decide +kernel
theorem dL_law_1723 : decode cL_law 1723 = .ok (.iload 4, 2) := by decide +kernel
theorem dL_law_1725 : decode cL_law 1725 = .ok (.iconst 1, 1) := by decide +kernel
theorem dL_law_1726 : decode cL_law 1726 = .ok (.iadd, 1) := by decide +kernel
theorem dL_law_1727 : decode cL_law 1727 = .ok (.iaload, 1) := by decide +kernel
theorem dL_law_1728 : decode cL_law 1728 = .ok (.aload_n 0, 1) := by decide +kernel
theorem dL_law_1729 : decode cL_law 1729 = .ok (.iload 4, 2) := by decide +kernel
theorem dL_law_1731 : decode cL_law 1731 = .ok (.iconst 2, 1) := by decide +kernel
theorem dL_law_1732 : decode cL_law 1732 = .ok (.iadd, 1) := by decide +kernel
theorem dL_law_1733 : decode cL_law 1733 = .ok (.iaload, 1) := by decide +kernel
theorem dL_law_1734 : decode cL_law 1734 = .ok (.invokevirtual 200, 3) := by decide +kernel
theorem dL_law_1737 : decode cL_law 1737 = .ok (.istore 6, 2) := by decide +kernel
theorem dL_law_1739 : decode cL_law 1739 = .ok (.aload_n 2, 1) := by decide +kernel
theorem dL_law_1740 : decode cL_law 1740 = .ok (.invokevirtual 126, 3) := by decide +kernel
theorem dL_law_1743 : decode cL_law 1743 = .ok (.iload 5, 2) := by decide +kernel
theorem dL_law_1745 : decode cL_law 1745 = .ok (.if_icmp .eq 5, 3) := by decide +kernel
theorem dL_law_1748 : decode cL_law 1748 = .ok (.iconst 0, 1) := by decide +kernel
theorem dL_law_1749 : decode cL_law 1749 = .ok (.ireturn, 1) := by decide +kernel
theorem dL_law_1750 : decode cL_law 1750 = .ok (.iload 5, 2) := by decide +kernel
theorem dL_law_1752 : decode cL_law 1752 = .ok (.ifCond .ne 15, 3) := by decide +kernel
theorem dL_law_1755 : decode cL_law 1755 = .ok (.aload_n 3, 1) := by decide +kernel
theorem dL_law_1756 : decode cL_law 1756 = .ok (.iconst 0, 1) := by decide +kernel
theorem dL_law_1757 : decode cL_law 1757 = .ok (.laload, 1) := by decide +kernel
theorem dL_law_1758 : decode cL_law 1758 = .ok (.iload 6, 2) := by decide +kernel
theorem dL_law_1760 : decode cL_law 1760 = .ok (.i2l, 1) := by decide +kernel
theorem dL_law_1761 : decode cL_law 1761 = .ok (.lcmp, 1) := by decide +kernel
theorem dL_law_1762 : decode cL_law 1762 = .ok (.ifCond .eq 5, 3) := by decide +kernel
theorem dL_law_1765 : decode cL_law 1765 = .ok (.iconst 0, 1) := by decide +kernel
theorem dL_law_1766 : decode cL_law 1766 = .ok (.ireturn, 1) := by decide +kernel
theorem dL_law_1767 : decode cL_law 1767 = .ok (.goto 626, 3) := by decide +kernel
theorem dL_law_1770 : decode cL_law 1770 = .ok (.aload_n 1, 1) := by decide +kernel
theorem dL_law_1771 : decode cL_law 1771 = .ok (.aload_n 0, 1) := by decide +kernel
theorem dL_law_1772 : decode cL_law 1772 = .ok (.iload 4, 2) := by decide +kernel
theorem dL_law_1774 : decode cL_law 1774 = .ok (.iconst 1, 1) := by decide +kernel
theorem dL_law_1775 : decode cL_law 1775 = .ok (.iadd, 1) := by decide +kernel
theorem dL_law_1776 : decode cL_law 1776 = .ok (.iaload, 1) := by decide +kernel
theorem dL_law_1777 : decode cL_law 1777 = .ok (.aload_n 0, 1) := by decide +kernel
theorem dL_law_1778 : decode cL_law 1778 = .ok (.iload 4, 2) := by decide +kernel
theorem dL_law_1780 : decode cL_law 1780 = .ok (.iconst 2, 1) := by decide +kernel
theorem dL_law_1781 : decode cL_law 1781 = .ok (.iadd, 1) := by decide +kernel
theorem dL_law_1782 : decode cL_law 1782 = .ok (.iaload, 1) := by decide +kernel
theorem dL_law_1783 : decode cL_law 1783 = .ok (.aload_n 3, 1) := by decide +kernel
theorem dL_law_1784 : decode cL_law 1784 = .ok (.invokestatic 201, 3) := by decide +kernel
theorem dL_law_1787 : decode cL_law 1787 = .ok (.istore 5, 2) := by decide +kernel
theorem dL_law_1789 : decode cL_law 1789 = .ok (.aload_n 2, 1) := by decide +kernel
theorem dL_law_1790 : decode cL_law 1790 = .ok (.aload_n 0, 1) := by decide +kernel
theorem dL_law_1791 : decode cL_law 1791 = .ok (.iload 4, 2) := by decide +kernel
theorem dL_law_1793 : decode cL_law 1793 = .ok (.iconst 1, 1) := by decide +kernel
theorem dL_law_1794 : decode cL_law 1794 = .ok (.iadd, 1) := by decide +kernel
theorem dL_law_1795 : decode cL_law 1795 = .ok (.iaload, 1) := by decide +kernel
theorem dL_law_1796 : decode cL_law 1796 = .ok (.aload_n 0, 1) := by decide +kernel
theorem dL_law_1797 : decode cL_law 1797 = .ok (.iload 4, 2) := by decide +kernel
theorem dL_law_1799 : decode cL_law 1799 = .ok (.iconst 2, 1) := by decide +kernel
theorem dL_law_1800 : decode cL_law 1800 = .ok (.iadd, 1) := by decide +kernel
theorem dL_law_1801 : decode cL_law 1801 = .ok (.iaload, 1) := by decide +kernel
theorem dL_law_1802 : decode cL_law 1802 = .ok (.invokevirtual 203, 3) := by decide +kernel
theorem dL_law_1805 : decode cL_law 1805 = .ok (.istore 6, 2) := by decide +kernel
theorem dL_law_1807 : decode cL_law 1807 = .ok (.aload_n 2, 1) := by decide +kernel
theorem dL_law_1808 : decode cL_law 1808 = .ok (.invokevirtual 126, 3) := by decide +kernel
theorem dL_law_1811 : decode cL_law 1811 = .ok (.iload 5, 2) := by decide +kernel
theorem dL_law_1813 : decode cL_law 1813 = .ok (.if_icmp .eq 5, 3) := by decide +kernel
theorem dL_law_1816 : decode cL_law 1816 = .ok (.iconst 0, 1) := by decide +kernel
theorem dL_law_1817 : decode cL_law 1817 = .ok (.ireturn, 1) := by decide +kernel
theorem dL_law_1818 : decode cL_law 1818 = .ok (.iload 5, 2) := by decide +kernel
theorem dL_law_1820 : decode cL_law 1820 = .ok (.ifCond .ne 15, 3) := by decide +kernel
theorem dL_law_1823 : decode cL_law 1823 = .ok (.aload_n 3, 1) := by decide +kernel
theorem dL_law_1824 : decode cL_law 1824 = .ok (.iconst 0, 1) := by decide +kernel
theorem dL_law_1825 : decode cL_law 1825 = .ok (.laload, 1) := by decide +kernel
theorem dL_law_1826 : decode cL_law 1826 = .ok (.iload 6, 2) := by decide +kernel
theorem dL_law_1828 : decode cL_law 1828 = .ok (.i2l, 1) := by decide +kernel
theorem dL_law_1829 : decode cL_law 1829 = .ok (.lcmp, 1) := by decide +kernel
theorem dL_law_1830 : decode cL_law 1830 = .ok (.ifCond .eq 5, 3) := by decide +kernel
theorem dL_law_1833 : decode cL_law 1833 = .ok (.iconst 0, 1) := by decide +kernel
theorem dL_law_1834 : decode cL_law 1834 = .ok (.ireturn, 1) := by decide +kernel
theorem dL_law_1835 : decode cL_law 1835 = .ok (.goto 558, 3) := by decide +kernel
theorem dL_law_1838 : decode cL_law 1838 = .ok (.aload_n 1, 1) := by decide +kernel
theorem dL_law_1839 : decode cL_law 1839 = .ok (.aload_n 0, 1) := by decide +kernel
theorem dL_law_1840 : decode cL_law 1840 = .ok (.iload 4, 2) := by decide +kernel
theorem dL_law_1842 : decode cL_law 1842 = .ok (.iconst 1, 1) := by decide +kernel
theorem dL_law_1843 : decode cL_law 1843 = .ok (.iadd, 1) := by decide +kernel
theorem dL_law_1844 : decode cL_law 1844 = .ok (.iaload, 1) := by decide +kernel
theorem dL_law_1845 : decode cL_law 1845 = .ok (.aload_n 0, 1) := by decide +kernel
theorem dL_law_1846 : decode cL_law 1846 = .ok (.iload 4, 2) := by decide +kernel
theorem dL_law_1848 : decode cL_law 1848 = .ok (.iconst 2, 1) := by decide +kernel
theorem dL_law_1849 : decode cL_law 1849 = .ok (.iadd, 1) := by decide +kernel
theorem dL_law_1850 : decode cL_law 1850 = .ok (.iaload, 1) := by decide +kernel
theorem dL_law_1851 : decode cL_law 1851 = .ok (.aload_n 0, 1) := by decide +kernel
theorem dL_law_1852 : decode cL_law 1852 = .ok (.iload 4, 2) := by decide +kernel
theorem dL_law_1854 : decode cL_law 1854 = .ok (.iconst 3, 1) := by decide +kernel
theorem dL_law_1855 : decode cL_law 1855 = .ok (.iadd, 1) := by decide +kernel
theorem dL_law_1856 : decode cL_law 1856 = .ok (.iaload, 1) := by decide +kernel
theorem dL_law_1857 : decode cL_law 1857 = .ok (.ifCond .eq 7, 3) := by decide +kernel
theorem dL_law_1860 : decode cL_law 1860 = .ok (.iconst 1, 1) := by decide +kernel
theorem dL_law_1861 : decode cL_law 1861 = .ok (.goto 4, 3) := by decide +kernel
theorem dL_law_1864 : decode cL_law 1864 = .ok (.iconst 0, 1) := by decide +kernel
theorem dL_law_1865 : decode cL_law 1865 = .ok (.aload_n 3, 1) := by decide +kernel
theorem dL_law_1866 : decode cL_law 1866 = .ok (.invokestatic 204, 3) := by decide +kernel
theorem dL_law_1869 : decode cL_law 1869 = .ok (.istore 5, 2) := by decide +kernel
theorem dL_law_1871 : decode cL_law 1871 = .ok (.aload_n 2, 1) := by decide +kernel
theorem dL_law_1872 : decode cL_law 1872 = .ok (.aload_n 0, 1) := by decide +kernel
theorem dL_law_1873 : decode cL_law 1873 = .ok (.iload 4, 2) := by decide +kernel
theorem dL_law_1875 : decode cL_law 1875 = .ok (.iconst 1, 1) := by decide +kernel
theorem dL_law_1876 : decode cL_law 1876 = .ok (.iadd, 1) := by decide +kernel
theorem dL_law_1877 : decode cL_law 1877 = .ok (.iaload, 1) := by decide +kernel
theorem dL_law_1878 : decode cL_law 1878 = .ok (.aload_n 0, 1) := by decide +kernel
theorem dL_law_1879 : decode cL_law 1879 = .ok (.iload 4, 2) := by decide +kernel
theorem dL_law_1881 : decode cL_law 1881 = .ok (.iconst 2, 1) := by decide +kernel
theorem dL_law_1882 : decode cL_law 1882 = .ok (.iadd, 1) := by decide +kernel
theorem dL_law_1883 : decode cL_law 1883 = .ok (.iaload, 1) := by decide +kernel
theorem dL_law_1884 : decode cL_law 1884 = .ok (.aload_n 0, 1) := by decide +kernel
theorem dL_law_1885 : decode cL_law 1885 = .ok (.iload 4, 2) := by decide +kernel
theorem dL_law_1887 : decode cL_law 1887 = .ok (.iconst 3, 1) := by decide +kernel
theorem dL_law_1888 : decode cL_law 1888 = .ok (.iadd, 1) := by decide +kernel
theorem dL_law_1889 : decode cL_law 1889 = .ok (.iaload, 1) := by decide +kernel
theorem dL_law_1890 : decode cL_law 1890 = .ok (.ifCond .eq 7, 3) := by decide +kernel
theorem dL_law_1893 : decode cL_law 1893 = .ok (.iconst 1, 1) := by decide +kernel
theorem dL_law_1894 : decode cL_law 1894 = .ok (.goto 4, 3) := by decide +kernel
theorem dL_law_1897 : decode cL_law 1897 = .ok (.iconst 0, 1) := by decide +kernel
theorem dL_law_1898 : decode cL_law 1898 = .ok (.invokevirtual 207, 3) := by decide +kernel
theorem dL_law_1901 : decode cL_law 1901 = .ok (.istore 6, 2) := by decide +kernel
theorem dL_law_1903 : decode cL_law 1903 = .ok (.aload_n 2, 1) := by decide +kernel
theorem dL_law_1904 : decode cL_law 1904 = .ok (.invokevirtual 126, 3) := by decide +kernel
theorem dL_law_1907 : decode cL_law 1907 = .ok (.iload 5, 2) := by decide +kernel
theorem dL_law_1909 : decode cL_law 1909 = .ok (.if_icmp .eq 5, 3) := by decide +kernel
theorem dL_law_1912 : decode cL_law 1912 = .ok (.iconst 0, 1) := by decide +kernel
theorem dL_law_1913 : decode cL_law 1913 = .ok (.ireturn, 1) := by decide +kernel
theorem dL_law_1914 : decode cL_law 1914 = .ok (.iload 5, 2) := by decide +kernel
theorem dL_law_1916 : decode cL_law 1916 = .ok (.ifCond .ne 15, 3) := by decide +kernel
theorem dL_law_1919 : decode cL_law 1919 = .ok (.aload_n 3, 1) := by decide +kernel
theorem dL_law_1920 : decode cL_law 1920 = .ok (.iconst 0, 1) := by decide +kernel
theorem dL_law_1921 : decode cL_law 1921 = .ok (.laload, 1) := by decide +kernel
theorem dL_law_1922 : decode cL_law 1922 = .ok (.iload 6, 2) := by decide +kernel
theorem dL_law_1924 : decode cL_law 1924 = .ok (.i2l, 1) := by decide +kernel
theorem dL_law_1925 : decode cL_law 1925 = .ok (.lcmp, 1) := by decide +kernel
theorem dL_law_1926 : decode cL_law 1926 = .ok (.ifCond .eq 5, 3) := by decide +kernel
theorem dL_law_1929 : decode cL_law 1929 = .ok (.iconst 0, 1) := by decide +kernel
theorem dL_law_1930 : decode cL_law 1930 = .ok (.ireturn, 1) := by decide +kernel
theorem dL_law_1931 : decode cL_law 1931 = .ok (.goto 462, 3) := by decide +kernel
theorem dL_law_1934 : decode cL_law 1934 = .ok (.aload_n 1, 1) := by decide +kernel
theorem dL_law_1935 : decode cL_law 1935 = .ok (.aload_n 0, 1) := by decide +kernel
theorem dL_law_1936 : decode cL_law 1936 = .ok (.iload 4, 2) := by decide +kernel
theorem dL_law_1938 : decode cL_law 1938 = .ok (.iconst 1, 1) := by decide +kernel
theorem dL_law_1939 : decode cL_law 1939 = .ok (.iadd, 1) := by decide +kernel
theorem dL_law_1940 : decode cL_law 1940 = .ok (.iaload, 1) := by decide +kernel
theorem dL_law_1941 : decode cL_law 1941 = .ok (.aload_n 0, 1) := by decide +kernel
theorem dL_law_1942 : decode cL_law 1942 = .ok (.iload 4, 2) := by decide +kernel
theorem dL_law_1944 : decode cL_law 1944 = .ok (.iconst 2, 1) := by decide +kernel
theorem dL_law_1945 : decode cL_law 1945 = .ok (.iadd, 1) := by decide +kernel
theorem dL_law_1946 : decode cL_law 1946 = .ok (.iaload, 1) := by decide +kernel
theorem dL_law_1947 : decode cL_law 1947 = .ok (.aload_n 0, 1) := by decide +kernel
theorem dL_law_1948 : decode cL_law 1948 = .ok (.iload 4, 2) := by decide +kernel
theorem dL_law_1950 : decode cL_law 1950 = .ok (.iconst 3, 1) := by decide +kernel
theorem dL_law_1951 : decode cL_law 1951 = .ok (.iadd, 1) := by decide +kernel
theorem dL_law_1952 : decode cL_law 1952 = .ok (.iaload, 1) := by decide +kernel
theorem dL_law_1953 : decode cL_law 1953 = .ok (.aload_n 0, 1) := by decide +kernel
theorem dL_law_1954 : decode cL_law 1954 = .ok (.iload 4, 2) := by decide +kernel
theorem dL_law_1956 : decode cL_law 1956 = .ok (.iconst 4, 1) := by decide +kernel
theorem dL_law_1957 : decode cL_law 1957 = .ok (.iadd, 1) := by decide +kernel
theorem dL_law_1958 : decode cL_law 1958 = .ok (.iaload, 1) := by decide +kernel
theorem dL_law_1959 : decode cL_law 1959 = .ok (.aload_n 0, 1) := by decide +kernel
theorem dL_law_1960 : decode cL_law 1960 = .ok (.iload 4, 2) := by decide +kernel
theorem dL_law_1962 : decode cL_law 1962 = .ok (.iconst 5, 1) := by decide +kernel
theorem dL_law_1963 : decode cL_law 1963 = .ok (.iadd, 1) := by decide +kernel
theorem dL_law_1964 : decode cL_law 1964 = .ok (.iaload, 1) := by decide +kernel
theorem dL_law_1965 : decode cL_law 1965 = .ok (.aload_n 3, 1) := by decide +kernel
theorem dL_law_1966 : decode cL_law 1966 = .ok (.invokestatic 208, 3) := by decide +kernel
theorem dL_law_1969 : decode cL_law 1969 = .ok (.istore 5, 2) := by decide +kernel
theorem dL_law_1971 : decode cL_law 1971 = .ok (.aload_n 2, 1) := by decide +kernel
theorem dL_law_1972 : decode cL_law 1972 = .ok (.aload_n 0, 1) := by decide +kernel
theorem dL_law_1973 : decode cL_law 1973 = .ok (.iload 4, 2) := by decide +kernel
theorem dL_law_1975 : decode cL_law 1975 = .ok (.iconst 1, 1) := by decide +kernel
theorem dL_law_1976 : decode cL_law 1976 = .ok (.iadd, 1) := by decide +kernel
theorem dL_law_1977 : decode cL_law 1977 = .ok (.iaload, 1) := by decide +kernel
theorem dL_law_1978 : decode cL_law 1978 = .ok (.aload_n 0, 1) := by decide +kernel
theorem dL_law_1979 : decode cL_law 1979 = .ok (.iload 4, 2) := by decide +kernel
theorem dL_law_1981 : decode cL_law 1981 = .ok (.iconst 2, 1) := by decide +kernel
theorem dL_law_1982 : decode cL_law 1982 = .ok (.iadd, 1) := by decide +kernel
theorem dL_law_1983 : decode cL_law 1983 = .ok (.iaload, 1) := by decide +kernel
theorem dL_law_1984 : decode cL_law 1984 = .ok (.aload_n 0, 1) := by decide +kernel
theorem dL_law_1985 : decode cL_law 1985 = .ok (.iload 4, 2) := by decide +kernel
theorem dL_law_1987 : decode cL_law 1987 = .ok (.iconst 3, 1) := by decide +kernel
theorem dL_law_1988 : decode cL_law 1988 = .ok (.iadd, 1) := by decide +kernel
theorem dL_law_1989 : decode cL_law 1989 = .ok (.iaload, 1) := by decide +kernel
theorem dL_law_1990 : decode cL_law 1990 = .ok (.aload_n 0, 1) := by decide +kernel
theorem dL_law_1991 : decode cL_law 1991 = .ok (.iload 4, 2) := by decide +kernel
theorem dL_law_1993 : decode cL_law 1993 = .ok (.iconst 4, 1) := by decide +kernel
theorem dL_law_1994 : decode cL_law 1994 = .ok (.iadd, 1) := by decide +kernel
theorem dL_law_1995 : decode cL_law 1995 = .ok (.iaload, 1) := by decide +kernel
theorem dL_law_1996 : decode cL_law 1996 = .ok (.aload_n 0, 1) := by decide +kernel
theorem dL_law_1997 : decode cL_law 1997 = .ok (.iload 4, 2) := by decide +kernel
theorem dL_law_1999 : decode cL_law 1999 = .ok (.iconst 5, 1) := by decide +kernel
theorem dL_law_2000 : decode cL_law 2000 = .ok (.iadd, 1) := by decide +kernel
theorem dL_law_2001 : decode cL_law 2001 = .ok (.iaload, 1) := by decide +kernel
theorem dL_law_2002 : decode cL_law 2002 = .ok (.invokevirtual 211, 3) := by decide +kernel
theorem dL_law_2005 : decode cL_law 2005 = .ok (.istore 6, 2) := by decide +kernel
theorem dL_law_2007 : decode cL_law 2007 = .ok (.aload_n 2, 1) := by decide +kernel
theorem dL_law_2008 : decode cL_law 2008 = .ok (.invokevirtual 126, 3) := by decide +kernel
theorem dL_law_2011 : decode cL_law 2011 = .ok (.iload 5, 2) := by decide +kernel
theorem dL_law_2013 : decode cL_law 2013 = .ok (.if_icmp .eq 5, 3) := by decide +kernel
theorem dL_law_2016 : decode cL_law 2016 = .ok (.iconst 0, 1) := by decide +kernel
theorem dL_law_2017 : decode cL_law 2017 = .ok (.ireturn, 1) := by decide +kernel
theorem dL_law_2018 : decode cL_law 2018 = .ok (.iload 5, 2) := by decide +kernel
theorem dL_law_2020 : decode cL_law 2020 = .ok (.ifCond .ne 15, 3) := by decide +kernel
theorem dL_law_2023 : decode cL_law 2023 = .ok (.aload_n 3, 1) := by decide +kernel
theorem dL_law_2024 : decode cL_law 2024 = .ok (.iconst 0, 1) := by decide +kernel
theorem dL_law_2025 : decode cL_law 2025 = .ok (.laload, 1) := by decide +kernel
theorem dL_law_2026 : decode cL_law 2026 = .ok (.iload 6, 2) := by decide +kernel
theorem dL_law_2028 : decode cL_law 2028 = .ok (.i2l, 1) := by decide +kernel
theorem dL_law_2029 : decode cL_law 2029 = .ok (.lcmp, 1) := by decide +kernel
theorem dL_law_2030 : decode cL_law 2030 = .ok (.ifCond .eq 5, 3) := by decide +kernel
theorem dL_law_2033 : decode cL_law 2033 = .ok (.iconst 0, 1) := by decide +kernel
theorem dL_law_2034 : decode cL_law 2034 = .ok (.ireturn, 1) := by decide +kernel
theorem dL_law_2035 : decode cL_law 2035 = .ok (.goto 358, 3) := by decide +kernel
theorem dL_law_2038 : decode cL_law 2038 = .ok (.aload_n 1, 1) := by decide +kernel
theorem dL_law_2039 : decode cL_law 2039 = .ok (.aload_n 0, 1) := by decide +kernel
theorem dL_law_2040 : decode cL_law 2040 = .ok (.iload 4, 2) := by decide +kernel
theorem dL_law_2042 : decode cL_law 2042 = .ok (.iconst 1, 1) := by decide +kernel
theorem dL_law_2043 : decode cL_law 2043 = .ok (.iadd, 1) := by decide +kernel
theorem dL_law_2044 : decode cL_law 2044 = .ok (.iaload, 1) := by decide +kernel
theorem dL_law_2045 : decode cL_law 2045 = .ok (.aload_n 0, 1) := by decide +kernel
theorem dL_law_2046 : decode cL_law 2046 = .ok (.iload 4, 2) := by decide +kernel
theorem dL_law_2048 : decode cL_law 2048 = .ok (.iconst 2, 1) := by decide +kernel
theorem dL_law_2049 : decode cL_law 2049 = .ok (.iadd, 1) := by decide +kernel
theorem dL_law_2050 : decode cL_law 2050 = .ok (.iaload, 1) := by decide +kernel
theorem dL_law_2051 : decode cL_law 2051 = .ok (.aload_n 0, 1) := by decide +kernel
theorem dL_law_2052 : decode cL_law 2052 = .ok (.iload 4, 2) := by decide +kernel
theorem dL_law_2054 : decode cL_law 2054 = .ok (.iconst 3, 1) := by decide +kernel
theorem dL_law_2055 : decode cL_law 2055 = .ok (.iadd, 1) := by decide +kernel
theorem dL_law_2056 : decode cL_law 2056 = .ok (.iaload, 1) := by decide +kernel
theorem dL_law_2057 : decode cL_law 2057 = .ok (.aload_n 3, 1) := by decide +kernel
theorem dL_law_2058 : decode cL_law 2058 = .ok (.invokestatic 212, 3) := by decide +kernel
theorem dL_law_2061 : decode cL_law 2061 = .ok (.istore 5, 2) := by decide +kernel
theorem dL_law_2063 : decode cL_law 2063 = .ok (.aload_n 2, 1) := by decide +kernel
theorem dL_law_2064 : decode cL_law 2064 = .ok (.aload_n 0, 1) := by decide +kernel
theorem dL_law_2065 : decode cL_law 2065 = .ok (.iload 4, 2) := by decide +kernel
theorem dL_law_2067 : decode cL_law 2067 = .ok (.iconst 1, 1) := by decide +kernel
theorem dL_law_2068 : decode cL_law 2068 = .ok (.iadd, 1) := by decide +kernel
theorem dL_law_2069 : decode cL_law 2069 = .ok (.iaload, 1) := by decide +kernel
theorem dL_law_2070 : decode cL_law 2070 = .ok (.aload_n 0, 1) := by decide +kernel
theorem dL_law_2071 : decode cL_law 2071 = .ok (.iload 4, 2) := by decide +kernel
theorem dL_law_2073 : decode cL_law 2073 = .ok (.iconst 2, 1) := by decide +kernel
theorem dL_law_2074 : decode cL_law 2074 = .ok (.iadd, 1) := by decide +kernel
theorem dL_law_2075 : decode cL_law 2075 = .ok (.iaload, 1) := by decide +kernel
theorem dL_law_2076 : decode cL_law 2076 = .ok (.aload_n 0, 1) := by decide +kernel
theorem dL_law_2077 : decode cL_law 2077 = .ok (.iload 4, 2) := by decide +kernel
theorem dL_law_2079 : decode cL_law 2079 = .ok (.iconst 3, 1) := by decide +kernel
theorem dL_law_2080 : decode cL_law 2080 = .ok (.iadd, 1) := by decide +kernel
theorem dL_law_2081 : decode cL_law 2081 = .ok (.iaload, 1) := by decide +kernel
theorem dL_law_2082 : decode cL_law 2082 = .ok (.invokevirtual 214, 3) := by decide +kernel
theorem dL_law_2085 : decode cL_law 2085 = .ok (.istore 6, 2) := by decide +kernel
theorem dL_law_2087 : decode cL_law 2087 = .ok (.aload_n 2, 1) := by decide +kernel
theorem dL_law_2088 : decode cL_law 2088 = .ok (.invokevirtual 126, 3) := by decide +kernel
theorem dL_law_2091 : decode cL_law 2091 = .ok (.iload 5, 2) := by decide +kernel
theorem dL_law_2093 : decode cL_law 2093 = .ok (.if_icmp .eq 5, 3) := by decide +kernel
theorem dL_law_2096 : decode cL_law 2096 = .ok (.iconst 0, 1) := by decide +kernel
theorem dL_law_2097 : decode cL_law 2097 = .ok (.ireturn, 1) := by decide +kernel
theorem dL_law_2098 : decode cL_law 2098 = .ok (.iload 5, 2) := by decide +kernel
theorem dL_law_2100 : decode cL_law 2100 = .ok (.ifCond .ne 15, 3) := by decide +kernel
theorem dL_law_2103 : decode cL_law 2103 = .ok (.aload_n 3, 1) := by decide +kernel
theorem dL_law_2104 : decode cL_law 2104 = .ok (.iconst 0, 1) := by decide +kernel
theorem dL_law_2105 : decode cL_law 2105 = .ok (.laload, 1) := by decide +kernel
theorem dL_law_2106 : decode cL_law 2106 = .ok (.iload 6, 2) := by decide +kernel
theorem dL_law_2108 : decode cL_law 2108 = .ok (.i2l, 1) := by decide +kernel
theorem dL_law_2109 : decode cL_law 2109 = .ok (.lcmp, 1) := by decide +kernel
theorem dL_law_2110 : decode cL_law 2110 = .ok (.ifCond .eq 5, 3) := by decide +kernel
theorem dL_law_2113 : decode cL_law 2113 = .ok (.iconst 0, 1) := by decide +kernel
theorem dL_law_2114 : decode cL_law 2114 = .ok (.ireturn, 1) := by decide +kernel
theorem dL_law_2115 : decode cL_law 2115 = .ok (.goto 278, 3) := by decide +kernel
theorem dL_law_2118 : decode cL_law 2118 = .ok (.aload_n 1, 1) := by decide +kernel
theorem dL_law_2119 : decode cL_law 2119 = .ok (.aload_n 0, 1) := by decide +kernel
theorem dL_law_2120 : decode cL_law 2120 = .ok (.iload 4, 2) := by decide +kernel
theorem dL_law_2122 : decode cL_law 2122 = .ok (.iconst 1, 1) := by decide +kernel
theorem dL_law_2123 : decode cL_law 2123 = .ok (.iadd, 1) := by decide +kernel
theorem dL_law_2124 : decode cL_law 2124 = .ok (.iaload, 1) := by decide +kernel
theorem dL_law_2125 : decode cL_law 2125 = .ok (.aload_n 0, 1) := by decide +kernel
theorem dL_law_2126 : decode cL_law 2126 = .ok (.iload 4, 2) := by decide +kernel
theorem dL_law_2128 : decode cL_law 2128 = .ok (.iconst 2, 1) := by decide +kernel
theorem dL_law_2129 : decode cL_law 2129 = .ok (.iadd, 1) := by decide +kernel
theorem dL_law_2130 : decode cL_law 2130 = .ok (.iaload, 1) := by decide +kernel
theorem dL_law_2131 : decode cL_law 2131 = .ok (.aload_n 3, 1) := by decide +kernel
theorem dL_law_2132 : decode cL_law 2132 = .ok (.invokestatic 215, 3) := by decide +kernel
theorem dL_law_2135 : decode cL_law 2135 = .ok (.istore 5, 2) := by decide +kernel
theorem dL_law_2137 : decode cL_law 2137 = .ok (.aload_n 2, 1) := by decide +kernel
theorem dL_law_2138 : decode cL_law 2138 = .ok (.aload_n 0, 1) := by decide +kernel
theorem dL_law_2139 : decode cL_law 2139 = .ok (.iload 4, 2) := by decide +kernel
theorem dL_law_2141 : decode cL_law 2141 = .ok (.iconst 1, 1) := by decide +kernel
theorem dL_law_2142 : decode cL_law 2142 = .ok (.iadd, 1) := by decide +kernel
theorem dL_law_2143 : decode cL_law 2143 = .ok (.iaload, 1) := by decide +kernel
theorem dL_law_2144 : decode cL_law 2144 = .ok (.aload_n 0, 1) := by decide +kernel
theorem dL_law_2145 : decode cL_law 2145 = .ok (.iload 4, 2) := by decide +kernel
theorem dL_law_2147 : decode cL_law 2147 = .ok (.iconst 2, 1) := by decide +kernel
theorem dL_law_2148 : decode cL_law 2148 = .ok (.iadd, 1) := by decide +kernel
theorem dL_law_2149 : decode cL_law 2149 = .ok (.iaload, 1) := by decide +kernel
theorem dL_law_2150 : decode cL_law 2150 = .ok (.invokevirtual 217, 3) := by decide +kernel
theorem dL_law_2153 : decode cL_law 2153 = .ok (.istore 6, 2) := by decide +kernel
theorem dL_law_2155 : decode cL_law 2155 = .ok (.aload_n 2, 1) := by decide +kernel
theorem dL_law_2156 : decode cL_law 2156 = .ok (.invokevirtual 126, 3) := by decide +kernel
theorem dL_law_2159 : decode cL_law 2159 = .ok (.iload 5, 2) := by decide +kernel
theorem dL_law_2161 : decode cL_law 2161 = .ok (.if_icmp .eq 5, 3) := by decide +kernel
theorem dL_law_2164 : decode cL_law 2164 = .ok (.iconst 0, 1) := by decide +kernel
theorem dL_law_2165 : decode cL_law 2165 = .ok (.ireturn, 1) := by decide +kernel
theorem dL_law_2166 : decode cL_law 2166 = .ok (.iload 5, 2) := by decide +kernel
theorem dL_law_2168 : decode cL_law 2168 = .ok (.ifCond .ne 15, 3) := by decide +kernel
theorem dL_law_2171 : decode cL_law 2171 = .ok (.aload_n 3, 1) := by decide +kernel
theorem dL_law_2172 : decode cL_law 2172 = .ok (.iconst 0, 1) := by decide +kernel
theorem dL_law_2173 : decode cL_law 2173 = .ok (.laload, 1) := by decide +kernel
theorem dL_law_2174 : decode cL_law 2174 = .ok (.iload 6, 2) := by decide +kernel
theorem dL_law_2176 : decode cL_law 2176 = .ok (.i2l, 1) := by decide +kernel
theorem dL_law_2177 : decode cL_law 2177 = .ok (.lcmp, 1) := by decide +kernel
theorem dL_law_2178 : decode cL_law 2178 = .ok (.ifCond .eq 5, 3) := by decide +kernel
theorem dL_law_2181 : decode cL_law 2181 = .ok (.iconst 0, 1) := by decide +kernel
theorem dL_law_2182 : decode cL_law 2182 = .ok (.ireturn, 1) := by decide +kernel
theorem dL_law_2183 : decode cL_law 2183 = .ok (.goto 210, 3) := by decide +kernel
theorem dL_law_2186 : decode cL_law 2186 = .ok (.aload_n 1, 1) := by decide +kernel
theorem dL_law_2187 : decode cL_law 2187 = .ok (.invokevirtual 218, 3) := by decide +kernel
theorem dL_law_2190 : decode cL_law 2190 = .ok (.aload_n 2, 1) := by decide +kernel
theorem dL_law_2191 : decode cL_law 2191 = .ok (.invokevirtual 221, 3) := by decide +kernel
theorem dL_law_2194 : decode cL_law 2194 = .ok (.if_icmp .eq 199, 3) := by decide +kernel
theorem dL_law_2197 : decode cL_law 2197 = .ok (.iconst 0, 1) := by decide +kernel
theorem dL_law_2198 : decode cL_law 2198 = .ok (.ireturn, 1) := by decide +kernel
theorem dL_law_2199 : decode cL_law 2199 = .ok (.aload_n 1, 1) := by decide +kernel
theorem dL_law_2200 : decode cL_law 2200 = .ok (.aload_n 0, 1) := by decide +kernel
theorem dL_law_2201 : decode cL_law 2201 = .ok (.iload 4, 2) := by decide +kernel
theorem dL_law_2203 : decode cL_law 2203 = .ok (.iconst 1, 1) := by decide +kernel
theorem dL_law_2204 : decode cL_law 2204 = .ok (.iadd, 1) := by decide +kernel
theorem dL_law_2205 : decode cL_law 2205 = .ok (.iaload, 1) := by decide +kernel
theorem dL_law_2206 : decode cL_law 2206 = .ok (.invokevirtual 222, 3) := by decide +kernel
theorem dL_law_2209 : decode cL_law 2209 = .ok (.aload_n 2, 1) := by decide +kernel
theorem dL_law_2210 : decode cL_law 2210 = .ok (.aload_n 0, 1) := by decide +kernel
theorem dL_law_2211 : decode cL_law 2211 = .ok (.iload 4, 2) := by decide +kernel
theorem dL_law_2213 : decode cL_law 2213 = .ok (.iconst 1, 1) := by decide +kernel
theorem dL_law_2214 : decode cL_law 2214 = .ok (.iadd, 1) := by decide +kernel
theorem dL_law_2215 : decode cL_law 2215 = .ok (.iaload, 1) := by decide +kernel
theorem dL_law_2216 : decode cL_law 2216 = .ok (.invokevirtual 225, 3) := by decide +kernel
theorem dL_law_2219 : decode cL_law 2219 = .ok (.if_icmp .eq 174, 3) := by decide +kernel
theorem dL_law_2222 : decode cL_law 2222 = .ok (.iconst 0, 1) := by decide +kernel
theorem dL_law_2223 : decode cL_law 2223 = .ok (.ireturn, 1) := by decide +kernel
theorem dL_law_2224 : decode cL_law 2224 = .ok (.aload_n 1, 1) := by decide +kernel
theorem dL_law_2225 : decode cL_law 2225 = .ok (.invokevirtual 226, 3) := by decide +kernel
theorem dL_law_2228 : decode cL_law 2228 = .ok (.aload_n 2, 1) := by decide +kernel
theorem dL_law_2229 : decode cL_law 2229 = .ok (.invokevirtual 229, 3) := by decide +kernel
theorem dL_law_2232 : decode cL_law 2232 = .ok (.if_icmp .eq 161, 3) := by decide +kernel
theorem dL_law_2235 : decode cL_law 2235 = .ok (.iconst 0, 1) := by decide +kernel
theorem dL_law_2236 : decode cL_law 2236 = .ok (.ireturn, 1) := by decide +kernel
theorem dL_law_2237 : decode cL_law 2237 = .ok (.aload_n 1, 1) := by decide +kernel
theorem dL_law_2238 : decode cL_law 2238 = .ok (.invokevirtual 230, 3) := by decide +kernel
theorem dL_law_2241 : decode cL_law 2241 = .ok (.aload_n 2, 1) := by decide +kernel
theorem dL_law_2242 : decode cL_law 2242 = .ok (.invokevirtual 233, 3) := by decide +kernel
theorem dL_law_2245 : decode cL_law 2245 = .ok (.if_icmp .eq 148, 3) := by decide +kernel
theorem dL_law_2248 : decode cL_law 2248 = .ok (.iconst 0, 1) := by decide +kernel
theorem dL_law_2249 : decode cL_law 2249 = .ok (.ireturn, 1) := by decide +kernel
theorem dL_law_2250 : decode cL_law 2250 = .ok (.aload_n 1, 1) := by decide +kernel
theorem dL_law_2251 : decode cL_law 2251 = .ok (.invokevirtual 234, 3) := by decide +kernel
theorem dL_law_2254 : decode cL_law 2254 = .ok (.aload_n 2, 1) := by decide +kernel
theorem dL_law_2255 : decode cL_law 2255 = .ok (.invokevirtual 237, 3) := by decide +kernel
theorem dL_law_2258 : decode cL_law 2258 = .ok (.if_icmp .eq 135, 3) := by decide +kernel
theorem dL_law_2261 : decode cL_law 2261 = .ok (.iconst 0, 1) := by decide +kernel
theorem dL_law_2262 : decode cL_law 2262 = .ok (.ireturn, 1) := by decide +kernel
theorem dL_law_2263 : decode cL_law 2263 = .ok (.aload_n 1, 1) := by decide +kernel
theorem dL_law_2264 : decode cL_law 2264 = .ok (.aload_n 0, 1) := by decide +kernel
theorem dL_law_2265 : decode cL_law 2265 = .ok (.iload 4, 2) := by decide +kernel
theorem dL_law_2267 : decode cL_law 2267 = .ok (.iconst 1, 1) := by decide +kernel
theorem dL_law_2268 : decode cL_law 2268 = .ok (.iadd, 1) := by decide +kernel
theorem dL_law_2269 : decode cL_law 2269 = .ok (.iaload, 1) := by decide +kernel
theorem dL_law_2270 : decode cL_law 2270 = .ok (.aload_n 0, 1) := by decide +kernel
theorem dL_law_2271 : decode cL_law 2271 = .ok (.iload 4, 2) := by decide +kernel
theorem dL_law_2273 : decode cL_law 2273 = .ok (.iconst 2, 1) := by decide +kernel
theorem dL_law_2274 : decode cL_law 2274 = .ok (.iadd, 1) := by decide +kernel
theorem dL_law_2275 : decode cL_law 2275 = .ok (.iaload, 1) := by decide +kernel
theorem dL_law_2276 : decode cL_law 2276 = .ok (.aload_n 3, 1) := by decide +kernel
theorem dL_law_2277 : decode cL_law 2277 = .ok (.invokestatic 238, 3) := by decide +kernel
theorem dL_law_2280 : decode cL_law 2280 = .ok (.istore 5, 2) := by decide +kernel
theorem dL_law_2282 : decode cL_law 2282 = .ok (.aload_n 2, 1) := by decide +kernel
theorem dL_law_2283 : decode cL_law 2283 = .ok (.aload_n 0, 1) := by decide +kernel
theorem dL_law_2284 : decode cL_law 2284 = .ok (.iload 4, 2) := by decide +kernel
theorem dL_law_2286 : decode cL_law 2286 = .ok (.iconst 1, 1) := by decide +kernel
theorem dL_law_2287 : decode cL_law 2287 = .ok (.iadd, 1) := by decide +kernel
theorem dL_law_2288 : decode cL_law 2288 = .ok (.iaload, 1) := by decide +kernel
theorem dL_law_2289 : decode cL_law 2289 = .ok (.aload_n 0, 1) := by decide +kernel
theorem dL_law_2290 : decode cL_law 2290 = .ok (.iload 4, 2) := by decide +kernel
theorem dL_law_2292 : decode cL_law 2292 = .ok (.iconst 2, 1) := by decide +kernel
theorem dL_law_2293 : decode cL_law 2293 = .ok (.iadd, 1) := by decide +kernel
theorem dL_law_2294 : decode cL_law 2294 = .ok (.iaload, 1) := by decide +kernel
theorem dL_law_2295 : decode cL_law 2295 = .ok (.invokevirtual 240, 3) := by decide +kernel
theorem dL_law_2298 : decode cL_law 2298 = .ok (.istore 6, 2) := by decide +kernel
theorem dL_law_2300 : decode cL_law 2300 = .ok (.aload_n 2, 1) := by decide +kernel
theorem dL_law_2301 : decode cL_law 2301 = .ok (.invokevirtual 126, 3) := by decide +kernel
theorem dL_law_2304 : decode cL_law 2304 = .ok (.iload 5, 2) := by decide +kernel
theorem dL_law_2306 : decode cL_law 2306 = .ok (.if_icmp .eq 5, 3) := by decide +kernel
theorem dL_law_2309 : decode cL_law 2309 = .ok (.iconst 0, 1) := by decide +kernel
theorem dL_law_2310 : decode cL_law 2310 = .ok (.ireturn, 1) := by decide +kernel
theorem dL_law_2311 : decode cL_law 2311 = .ok (.iload 5, 2) := by decide +kernel
theorem dL_law_2313 : decode cL_law 2313 = .ok (.ifCond .ne 15, 3) := by decide +kernel
theorem dL_law_2316 : decode cL_law 2316 = .ok (.aload_n 3, 1) := by decide +kernel
theorem dL_law_2317 : decode cL_law 2317 = .ok (.iconst 0, 1) := by decide +kernel
theorem dL_law_2318 : decode cL_law 2318 = .ok (.laload, 1) := by decide +kernel
theorem dL_law_2319 : decode cL_law 2319 = .ok (.iload 6, 2) := by decide +kernel
theorem dL_law_2321 : decode cL_law 2321 = .ok (.i2l, 1) := by decide +kernel
theorem dL_law_2322 : decode cL_law 2322 = .ok (.lcmp, 1) := by decide +kernel
theorem dL_law_2323 : decode cL_law 2323 = .ok (.ifCond .eq 5, 3) := by decide +kernel
theorem dL_law_2326 : decode cL_law 2326 = .ok (.iconst 0, 1) := by decide +kernel
theorem dL_law_2327 : decode cL_law 2327 = .ok (.ireturn, 1) := by decide +kernel
theorem dL_law_2328 : decode cL_law 2328 = .ok (.goto 65, 3) := by decide +kernel
theorem dL_law_2331 : decode cL_law 2331 = .ok (.aload_n 1, 1) := by decide +kernel
theorem dL_law_2332 : decode cL_law 2332 = .ok (.invokevirtual 241, 3) := by decide +kernel
theorem dL_law_2335 : decode cL_law 2335 = .ok (.aload_n 2, 1) := by decide +kernel
theorem dL_law_2336 : decode cL_law 2336 = .ok (.invokevirtual 245, 3) := by decide +kernel
theorem dL_law_2339 : decode cL_law 2339 = .ok (.if_icmp .eq 54, 3) := by decide +kernel
theorem dL_law_2342 : decode cL_law 2342 = .ok (.iconst 0, 1) := by decide +kernel
theorem dL_law_2343 : decode cL_law 2343 = .ok (.ireturn, 1) := by decide +kernel
theorem dL_law_2344 : decode cL_law 2344 = .ok (.aload_n 1, 1) := by decide +kernel
theorem dL_law_2345 : decode cL_law 2345 = .ok (.invokevirtual 246, 3) := by decide +kernel
theorem dL_law_2348 : decode cL_law 2348 = .ok (.aload_n 2, 1) := by decide +kernel
theorem dL_law_2349 : decode cL_law 2349 = .ok (.invokevirtual 249, 3) := by decide +kernel
theorem dL_law_2352 : decode cL_law 2352 = .ok (.goto 41, 3) := by decide +kernel
theorem dL_law_2355 : decode cL_law 2355 = .ok (.aload_n 1, 1) := by decide +kernel
theorem dL_law_2356 : decode cL_law 2356 = .ok (.invokevirtual 250, 3) := by decide +kernel
theorem dL_law_2359 : decode cL_law 2359 = .ok (.aload_n 2, 1) := by decide +kernel
theorem dL_law_2360 : decode cL_law 2360 = .ok (.invokevirtual 253, 3) := by decide +kernel
theorem dL_law_2363 : decode cL_law 2363 = .ok (.if_icmp .eq 30, 3) := by decide +kernel
theorem dL_law_2366 : decode cL_law 2366 = .ok (.iconst 0, 1) := by decide +kernel
theorem dL_law_2367 : decode cL_law 2367 = .ok (.ireturn, 1) := by decide +kernel
theorem dL_law_2368 : decode cL_law 2368 = .ok (.aload_n 1, 1) := by decide +kernel
theorem dL_law_2369 : decode cL_law 2369 = .ok (.aload_n 0, 1) := by decide +kernel
theorem dL_law_2370 : decode cL_law 2370 = .ok (.iload 4, 2) := by decide +kernel
theorem dL_law_2372 : decode cL_law 2372 = .ok (.iconst 1, 1) := by decide +kernel
theorem dL_law_2373 : decode cL_law 2373 = .ok (.iadd, 1) := by decide +kernel
theorem dL_law_2374 : decode cL_law 2374 = .ok (.iaload, 1) := by decide +kernel
theorem dL_law_2375 : decode cL_law 2375 = .ok (.invokevirtual 254, 3) := by decide +kernel
theorem dL_law_2378 : decode cL_law 2378 = .ok (.aload_n 2, 1) := by decide +kernel
theorem dL_law_2379 : decode cL_law 2379 = .ok (.aload_n 0, 1) := by decide +kernel
theorem dL_law_2380 : decode cL_law 2380 = .ok (.iload 4, 2) := by decide +kernel
theorem dL_law_2382 : decode cL_law 2382 = .ok (.iconst 1, 1) := by decide +kernel
theorem dL_law_2383 : decode cL_law 2383 = .ok (.iadd, 1) := by decide +kernel
theorem dL_law_2384 : decode cL_law 2384 = .ok (.iaload, 1) := by decide +kernel
theorem dL_law_2385 : decode cL_law 2385 = .ok (.invokevirtual 257, 3) := by decide +kernel
theorem dL_law_2388 : decode cL_law 2388 = .ok (.if_icmp .eq 5, 3) := by decide +kernel
theorem dL_law_2391 : decode cL_law 2391 = .ok (.iconst 0, 1) := by decide +kernel
theorem dL_law_2392 : decode cL_law 2392 = .ok (.ireturn, 1) := by decide +kernel
theorem dL_law_2393 : decode cL_law 2393 = .ok (.iinc 4 6, 3) := by decide +kernel
theorem dL_law_2396 : decode cL_law 2396 = .ok (.goto (-2373), 3) := by decide +kernel
theorem dL_law_2399 : decode cL_law 2399 = .ok (.iconst 1, 1) := by decide +kernel
theorem dL_law_2400 : decode cL_law 2400 = .ok (.ireturn, 1) := by decide +kernel
set_option maxRecDepth 20000 in
theorem kb_291_0 : ∀ q ∈ tb_291_0, s_atx 291 yL_law cL_law q.1 q.2 := (List.forall_mem_cons.mpr ⟨⟨s_new (ci := 7) rfl inX11 tyX11_ok (by decide +kernel) (fun _ _ => rfl) rfl w_29 wi_X11 wz_X11 dL_law_0, s_mo_new _ _ _⟩, (List.forall_mem_cons.mpr ⟨⟨s_dup dL_law_3, s_mo_dup _⟩, (List.forall_mem_cons.mpr ⟨⟨s_sI mk_291 mk_101 ok_101 (by decide +kernel) dL_law_4 rfl w_32 ⟨7, _, _, rfl, rfl⟩ (Or.inl w_31), s_h0 mk_291⟩, (List.forall_mem_cons.mpr ⟨⟨s_stAn dL_law_7 rfl, s_mo_stA _ _⟩, (List.forall_mem_cons.mpr ⟨⟨s_new (ci := 8) rfl inX12 tyX12_ok (by decide +kernel) (fun _ _ => rfl) rfl w_1207 wi_X12 wz_X12 dL_law_8, s_mo_new _ _ _⟩, (List.forall_mem_cons.mpr ⟨⟨s_dup dL_law_11, s_mo_dup _⟩, (List.forall_mem_cons.mpr ⟨⟨s_sI mk_291 mk_151 ok_151 (by decide +kernel) dL_law_12 rfl w_1210 ⟨8, _, _, rfl, rfl⟩ (Or.inl w_1209), s_h0 mk_291⟩, (List.forall_mem_cons.mpr ⟨⟨s_stAn dL_law_15 rfl, s_mo_stA _ _⟩, (List.forall_mem_cons.mpr ⟨⟨s_iconst dL_law_16 (by decide +kernel), s_mo_push _ _⟩, (List.forall_mem_cons.mpr ⟨⟨s_newa (t := 2) (aty := .long) (ty := .long) (by decide) rfl (fun _ => rfl) (fun _ _ h => h) (by decide) (fun _ _ => ⟨_, rfl, rfl⟩) w_arr2 dL_law_17, s_mo_newa _ _⟩, (List.forall_mem_cons.mpr ⟨⟨s_stAn dL_law_19 rfl, s_mo_stA _ _⟩, (List.forall_mem_cons.mpr ⟨⟨s_iconst dL_law_20 (by decide +kernel), s_mo_push _ _⟩, (List.forall_mem_cons.mpr ⟨⟨s_stI dL_law_21, s_mo_stI _ _⟩, (List.forall_mem_cons.mpr ⟨⟨s_ldI dL_law_23, s_mo_ldI _ _⟩, (List.forall_mem_cons.mpr ⟨⟨s_ldAn dL_law_25 rfl, s_mo_ldA _ _⟩, (List.forall_mem_cons.mpr ⟨⟨s_alenO dL_law_26, s_mo_alenO _⟩, (List.forall_mem_cons.mpr ⟨⟨s_bipush dL_law_27 (by decide +kernel), s_mo_push _ _⟩, (List.forall_mem_cons.mpr ⟨⟨s_isub dL_law_29, s_mo_bin _ _⟩, (List.forall_mem_cons.mpr ⟨⟨s_icgt dL_law_30 (by decide), s_mo_icgt _ _⟩, (List.forall_mem_cons.mpr ⟨⟨s_ldAn dL_law_33 rfl, s_mo_ldA _ _⟩, (List.forall_mem_cons.mpr ⟨⟨s_ldI dL_law_34, s_mo_ldI _ _⟩, (List.forall_mem_cons.mpr ⟨⟨s_ialdO dL_law_36, s_mo_ialdO _⟩, (List.forall_mem_cons.mpr ⟨⟨s_bipush dL_law_37 (by decide +kernel), s_mo_push _ _⟩, (List.forall_mem_cons.mpr ⟨⟨s_iand dL_law_39, s_mo_bin _ _⟩, (List.forall_mem_cons.mpr ⟨⟨s_table dL_law_40 (by decide) (by decide) (by decide +kernel), s_mo_table _ _ _⟩, (fun _ h => absurd h List.not_mem_nil)⟩)⟩)⟩)⟩)⟩)⟩)⟩)⟩)⟩)⟩)⟩)⟩)⟩)⟩)⟩)⟩)⟩)⟩)⟩)⟩)⟩)⟩)⟩)⟩)⟩)
set_option maxRecDepth 20000 in
theorem kb_291_1 : ∀ q ∈ tb_291_1, s_atx 291 yL_law cL_law q.1 q.2 := (fun _ h => absurd h List.not_mem_nil)
set_option maxRecDepth 20000 in
theorem kb_291_2 : ∀ q ∈ tb_291_2, s_atx 291 yL_law cL_law q.1 q.2 := (fun _ h => absurd h List.not_mem_nil)
set_option maxRecDepth 20000 in
theorem kb_291_3 : ∀ q ∈ tb_291_3, s_atx 291 yL_law cL_law q.1 q.2 := (List.forall_mem_cons.mpr ⟨⟨s_ldAn dL_law_216 rfl, s_mo_ldA _ _⟩, (List.forall_mem_cons.mpr ⟨⟨s_ldAn dL_law_217 rfl, s_mo_ldA _ _⟩, (List.forall_mem_cons.mpr ⟨⟨s_ldI dL_law_218, s_mo_ldI _ _⟩, (List.forall_mem_cons.mpr ⟨⟨s_iconst dL_law_220 (by decide +kernel), s_mo_push _ _⟩, (List.forall_mem_cons.mpr ⟨⟨s_iadd dL_law_221, s_mo_bin _ _⟩, (List.forall_mem_cons.mpr ⟨⟨s_ialdO dL_law_222, s_mo_ialdO _⟩, (List.forall_mem_cons.mpr ⟨⟨s_ldAn dL_law_223 rfl, s_mo_ldA _ _⟩, (List.forall_mem_cons.mpr ⟨⟨s_ldI dL_law_224, s_mo_ldI _ _⟩, (List.forall_mem_cons.mpr ⟨⟨s_iconst dL_law_226 (by decide +kernel), s_mo_push _ _⟩, (List.forall_mem_cons.mpr ⟨⟨s_iadd dL_law_227, s_mo_bin _ _⟩, (List.forall_mem_cons.mpr ⟨⟨s_ialdO dL_law_228, s_mo_ialdO _⟩, (List.forall_mem_cons.mpr ⟨⟨s_ldAn dL_law_229 rfl, s_mo_ldA _ _⟩, (List.forall_mem_cons.mpr ⟨⟨s_ldI dL_law_230, s_mo_ldI _ _⟩, (List.forall_mem_cons.mpr ⟨⟨s_iconst dL_law_232 (by decide +kernel), s_mo_push _ _⟩, (List.forall_mem_cons.mpr ⟨⟨s_iadd dL_law_233, s_mo_bin _ _⟩, (List.forall_mem_cons.mpr ⟨⟨s_ialdO dL_law_234, s_mo_ialdO _⟩, (List.forall_mem_cons.mpr ⟨⟨s_ldAn dL_law_235 rfl, s_mo_ldA _ _⟩, (List.forall_mem_cons.mpr ⟨⟨s_ldI dL_law_236, s_mo_ldI _ _⟩, (List.forall_mem_cons.mpr ⟨⟨s_iconst dL_law_238 (by decide +kernel), s_mo_push _ _⟩, (List.forall_mem_cons.mpr ⟨⟨s_iadd dL_law_239, s_mo_bin _ _⟩, (List.forall_mem_cons.mpr ⟨⟨s_ialdO dL_law_240, s_mo_ialdO _⟩, (List.forall_mem_cons.mpr ⟨⟨s_ldAn dL_law_241 rfl, s_mo_ldA _ _⟩, (List.forall_mem_cons.mpr ⟨⟨s_ldI dL_law_242, s_mo_ldI _ _⟩, (List.forall_mem_cons.mpr ⟨⟨s_iconst dL_law_244 (by decide +kernel), s_mo_push _ _⟩, (List.forall_mem_cons.mpr ⟨⟨s_iadd dL_law_245, s_mo_bin _ _⟩, (List.forall_mem_cons.mpr ⟨⟨s_ialdO dL_law_246, s_mo_ialdO _⟩, (List.forall_mem_cons.mpr ⟨⟨s_sV mk_291 mk_102 ok_102 (by decide +kernel) dL_law_247 w_340 w_341 w_342 (Or.inr ⟨7, _, _, rfl, rfl⟩), s_h0 mk_291⟩, (List.forall_mem_cons.mpr ⟨⟨s_ldAn dL_law_250 rfl, s_mo_ldA _ _⟩, (List.forall_mem_cons.mpr ⟨⟨s_ldAn dL_law_251 rfl, s_mo_ldA _ _⟩, (List.forall_mem_cons.mpr ⟨⟨s_ldI dL_law_252, s_mo_ldI _ _⟩, (List.forall_mem_cons.mpr ⟨⟨s_iconst dL_law_254 (by decide +kernel), s_mo_push _ _⟩, (List.forall_mem_cons.mpr ⟨⟨s_iadd dL_law_255, s_mo_bin _ _⟩, (fun _ h => absurd h List.not_mem_nil)⟩)⟩)⟩)⟩)⟩)⟩)⟩)⟩)⟩)⟩)⟩)⟩)⟩)⟩)⟩)⟩)⟩)⟩)⟩)⟩)⟩)⟩)⟩)⟩)⟩)⟩)⟩)⟩)⟩)⟩)⟩)⟩)
set_option maxRecDepth 20000 in
theorem kb_291_4 : ∀ q ∈ tb_291_4, s_atx 291 yL_law cL_law q.1 q.2 := (List.forall_mem_cons.mpr ⟨⟨s_ialdO dL_law_256, s_mo_ialdO _⟩, (List.forall_mem_cons.mpr ⟨⟨s_ldAn dL_law_257 rfl, s_mo_ldA _ _⟩, (List.forall_mem_cons.mpr ⟨⟨s_ldI dL_law_258, s_mo_ldI _ _⟩, (List.forall_mem_cons.mpr ⟨⟨s_iconst dL_law_260 (by decide +kernel), s_mo_push _ _⟩, (List.forall_mem_cons.mpr ⟨⟨s_iadd dL_law_261, s_mo_bin _ _⟩, (List.forall_mem_cons.mpr ⟨⟨s_ialdO dL_law_262, s_mo_ialdO _⟩, (List.forall_mem_cons.mpr ⟨⟨s_ldAn dL_law_263 rfl, s_mo_ldA _ _⟩, (List.forall_mem_cons.mpr ⟨⟨s_ldI dL_law_264, s_mo_ldI _ _⟩, (List.forall_mem_cons.mpr ⟨⟨s_iconst dL_law_266 (by decide +kernel), s_mo_push _ _⟩, (List.forall_mem_cons.mpr ⟨⟨s_iadd dL_law_267, s_mo_bin _ _⟩, (List.forall_mem_cons.mpr ⟨⟨s_ialdO dL_law_268, s_mo_ialdO _⟩, (List.forall_mem_cons.mpr ⟨⟨s_ldAn dL_law_269 rfl, s_mo_ldA _ _⟩, (List.forall_mem_cons.mpr ⟨⟨s_ldI dL_law_270, s_mo_ldI _ _⟩, (List.forall_mem_cons.mpr ⟨⟨s_iconst dL_law_272 (by decide +kernel), s_mo_push _ _⟩, (List.forall_mem_cons.mpr ⟨⟨s_iadd dL_law_273, s_mo_bin _ _⟩, (List.forall_mem_cons.mpr ⟨⟨s_ialdO dL_law_274, s_mo_ialdO _⟩, (List.forall_mem_cons.mpr ⟨⟨s_ldAn dL_law_275 rfl, s_mo_ldA _ _⟩, (List.forall_mem_cons.mpr ⟨⟨s_ldI dL_law_276, s_mo_ldI _ _⟩, (List.forall_mem_cons.mpr ⟨⟨s_iconst dL_law_278 (by decide +kernel), s_mo_push _ _⟩, (List.forall_mem_cons.mpr ⟨⟨s_iadd dL_law_279, s_mo_bin _ _⟩, (List.forall_mem_cons.mpr ⟨⟨s_ialdO dL_law_280, s_mo_ialdO _⟩, (List.forall_mem_cons.mpr ⟨⟨s_sV mk_291 mk_165 ok_165 (by decide +kernel) dL_law_281 w_1311 w_1312 w_1313 (Or.inr ⟨8, _, _, rfl, rfl⟩), s_h0 mk_291⟩, (List.forall_mem_cons.mpr ⟨⟨s_iceq dL_law_284 (by decide), s_mo_iceq _ _⟩, (List.forall_mem_cons.mpr ⟨⟨s_iconst dL_law_287 (by decide +kernel), s_mo_push _ _⟩, (List.forall_mem_cons.mpr ⟨s_r2 mk_291 dL_law_288, (List.forall_mem_cons.mpr ⟨⟨s_ldAn dL_law_289 rfl, s_mo_ldA _ _⟩, (List.forall_mem_cons.mpr ⟨⟨s_ldAn dL_law_290 rfl, s_mo_ldA _ _⟩, (List.forall_mem_cons.mpr ⟨⟨s_ldI dL_law_291, s_mo_ldI _ _⟩, (List.forall_mem_cons.mpr ⟨⟨s_iconst dL_law_293 (by decide +kernel), s_mo_push _ _⟩, (List.forall_mem_cons.mpr ⟨⟨s_iadd dL_law_294, s_mo_bin _ _⟩, (List.forall_mem_cons.mpr ⟨⟨s_ialdO dL_law_295, s_mo_ialdO _⟩, (List.forall_mem_cons.mpr ⟨⟨s_sV mk_291 mk_103 ok_103 (by decide +kernel) dL_law_296 w_353 w_354 w_355 (Or.inr ⟨7, _, _, rfl, rfl⟩), s_h0 mk_291⟩, (List.forall_mem_cons.mpr ⟨⟨s_ldAn dL_law_299 rfl, s_mo_ldA _ _⟩, (List.forall_mem_cons.mpr ⟨⟨s_ldAn dL_law_300 rfl, s_mo_ldA _ _⟩, (List.forall_mem_cons.mpr ⟨⟨s_ldI dL_law_301, s_mo_ldI _ _⟩, (List.forall_mem_cons.mpr ⟨⟨s_iconst dL_law_303 (by decide +kernel), s_mo_push _ _⟩, (List.forall_mem_cons.mpr ⟨⟨s_iadd dL_law_304, s_mo_bin _ _⟩, (List.forall_mem_cons.mpr ⟨⟨s_ialdO dL_law_305, s_mo_ialdO _⟩, (List.forall_mem_cons.mpr ⟨⟨s_sV mk_291 mk_166 ok_166 (by decide +kernel) dL_law_306 w_1315 w_1316 w_1317 (Or.inr ⟨8, _, _, rfl, rfl⟩), s_h0 mk_291⟩, (List.forall_mem_cons.mpr ⟨⟨s_iceq dL_law_309 (by decide), s_mo_iceq _ _⟩, (List.forall_mem_cons.mpr ⟨⟨s_iconst dL_law_312 (by decide +kernel), s_mo_push _ _⟩, (List.forall_mem_cons.mpr ⟨s_r2 mk_291 dL_law_313, (List.forall_mem_cons.mpr ⟨⟨s_ldAn dL_law_314 rfl, s_mo_ldA _ _⟩, (List.forall_mem_cons.mpr ⟨⟨s_ldAn dL_law_315 rfl, s_mo_ldA _ _⟩, (List.forall_mem_cons.mpr ⟨⟨s_sS mk_291 mk_264 ok_264 (by decide +kernel) dL_law_316 w_487 w_488, s_h0 mk_291⟩, (List.forall_mem_cons.mpr ⟨⟨s_stI dL_law_319, s_mo_stI _ _⟩, (fun _ h => absurd h List.not_mem_nil)⟩)⟩)⟩)⟩)⟩)⟩)⟩)⟩)⟩)⟩)⟩)⟩)⟩)⟩)⟩)⟩)⟩)⟩)⟩)⟩)⟩)⟩)⟩)⟩)⟩)⟩)⟩)⟩)⟩)⟩)⟩)⟩)⟩)⟩)⟩)⟩)⟩)⟩)⟩)⟩)⟩)⟩)⟩)⟩)⟩)⟩)
set_option maxRecDepth 20000 in
theorem kb_291_5 : ∀ q ∈ tb_291_5, s_atx 291 yL_law cL_law q.1 q.2 := (List.forall_mem_cons.mpr ⟨⟨s_ldAn dL_law_321 rfl, s_mo_ldA _ _⟩, (List.forall_mem_cons.mpr ⟨⟨s_sV mk_291 mk_189 ok_189 (by decide +kernel) dL_law_322 w_1323 w_1324 w_1325 (Or.inr ⟨8, _, _, rfl, rfl⟩), s_h0 mk_291⟩, (List.forall_mem_cons.mpr ⟨⟨s_stI dL_law_325, s_mo_stI _ _⟩, (List.forall_mem_cons.mpr ⟨⟨s_ldAn dL_law_327 rfl, s_mo_ldA _ _⟩, (List.forall_mem_cons.mpr ⟨⟨s_sV mk_291 mk_148 ok_148 (by decide +kernel) dL_law_328 w_1203 w_1204 w_1205 (Or.inr ⟨8, _, _, rfl, rfl⟩), s_h0 mk_291⟩, (List.forall_mem_cons.mpr ⟨⟨s_ldI dL_law_331, s_mo_ldI _ _⟩, (List.forall_mem_cons.mpr ⟨⟨s_iceq dL_law_333 (by decide), s_mo_iceq _ _⟩, (List.forall_mem_cons.mpr ⟨⟨s_iconst dL_law_336 (by decide +kernel), s_mo_push _ _⟩, (List.forall_mem_cons.mpr ⟨s_r2 mk_291 dL_law_337, (List.forall_mem_cons.mpr ⟨⟨s_ldI dL_law_338, s_mo_ldI _ _⟩, (List.forall_mem_cons.mpr ⟨⟨s_ifne dL_law_340 (by decide), s_mo_ifne _ _⟩, (List.forall_mem_cons.mpr ⟨⟨s_ldAn dL_law_343 rfl, s_mo_ldA _ _⟩, (List.forall_mem_cons.mpr ⟨⟨s_iconst dL_law_344 (by decide +kernel), s_mo_push _ _⟩, (List.forall_mem_cons.mpr ⟨⟨s_lald dL_law_345, s_mo_lald _⟩, (List.forall_mem_cons.mpr ⟨⟨s_ldI dL_law_346, s_mo_ldI _ _⟩, (List.forall_mem_cons.mpr ⟨⟨s_i2l dL_law_348, s_mo_i2l _⟩, (List.forall_mem_cons.mpr ⟨⟨s_lcmp dL_law_349, s_mo_lcmp _⟩, (List.forall_mem_cons.mpr ⟨⟨s_ifeq dL_law_350 (by decide), s_mo_ifeq _ _⟩, (List.forall_mem_cons.mpr ⟨⟨s_iconst dL_law_353 (by decide +kernel), s_mo_push _ _⟩, (List.forall_mem_cons.mpr ⟨s_r2 mk_291 dL_law_354, (List.forall_mem_cons.mpr ⟨⟨s_goto dL_law_355 (by decide), s_mo_goto _⟩, (List.forall_mem_cons.mpr ⟨⟨s_ldAn dL_law_358 rfl, s_mo_ldA _ _⟩, (List.forall_mem_cons.mpr ⟨⟨s_ldAn dL_law_359 rfl, s_mo_ldA _ _⟩, (List.forall_mem_cons.mpr ⟨⟨s_sS mk_291 mk_265 ok_265 (by decide +kernel) dL_law_360 w_699 w_700, s_h0 mk_291⟩, (List.forall_mem_cons.mpr ⟨⟨s_stI dL_law_363, s_mo_stI _ _⟩, (List.forall_mem_cons.mpr ⟨⟨s_ldAn dL_law_365 rfl, s_mo_ldA _ _⟩, (List.forall_mem_cons.mpr ⟨⟨s_sV mk_291 mk_190 ok_190 (by decide +kernel) dL_law_366 w_1442 w_1443 w_1444 (Or.inr ⟨8, _, _, rfl, rfl⟩), s_h0 mk_291⟩, (List.forall_mem_cons.mpr ⟨⟨s_stI dL_law_369, s_mo_stI _ _⟩, (List.forall_mem_cons.mpr ⟨⟨s_ldAn dL_law_371 rfl, s_mo_ldA _ _⟩, (List.forall_mem_cons.mpr ⟨⟨s_sV mk_291 mk_148 ok_148 (by decide +kernel) dL_law_372 w_1203 w_1204 w_1205 (Or.inr ⟨8, _, _, rfl, rfl⟩), s_h0 mk_291⟩, (List.forall_mem_cons.mpr ⟨⟨s_ldI dL_law_375, s_mo_ldI _ _⟩, (List.forall_mem_cons.mpr ⟨⟨s_iceq dL_law_377 (by decide), s_mo_iceq _ _⟩, (List.forall_mem_cons.mpr ⟨⟨s_iconst dL_law_380 (by decide +kernel), s_mo_push _ _⟩, (List.forall_mem_cons.mpr ⟨s_r2 mk_291 dL_law_381, (List.forall_mem_cons.mpr ⟨⟨s_ldI dL_law_382, s_mo_ldI _ _⟩, (fun _ h => absurd h List.not_mem_nil)⟩)⟩)⟩)⟩)⟩)⟩)⟩)⟩)⟩)⟩)⟩)⟩)⟩)⟩)⟩)⟩)⟩)⟩)⟩)⟩)⟩)⟩)⟩)⟩)⟩)⟩)⟩)⟩)⟩)⟩)⟩)⟩)⟩)⟩)⟩)
set_option maxRecDepth 20000 in
theorem kb_291_6 : ∀ q ∈ tb_291_6, s_atx 291 yL_law cL_law q.1 q.2 := (List.forall_mem_cons.mpr ⟨⟨s_ifne dL_law_384 (by decide), s_mo_ifne _ _⟩, (List.forall_mem_cons.mpr ⟨⟨s_ldAn dL_law_387 rfl, s_mo_ldA _ _⟩, (List.forall_mem_cons.mpr ⟨⟨s_iconst dL_law_388 (by decide +kernel), s_mo_push _ _⟩, (List.forall_mem_cons.mpr ⟨⟨s_lald dL_law_389, s_mo_lald _⟩, (List.forall_mem_cons.mpr ⟨⟨s_ldI dL_law_390, s_mo_ldI _ _⟩, (List.forall_mem_cons.mpr ⟨⟨s_i2l dL_law_392, s_mo_i2l _⟩, (List.forall_mem_cons.mpr ⟨⟨s_lcmp dL_law_393, s_mo_lcmp _⟩, (List.forall_mem_cons.mpr ⟨⟨s_ifeq dL_law_394 (by decide), s_mo_ifeq _ _⟩, (List.forall_mem_cons.mpr ⟨⟨s_iconst dL_law_397 (by decide +kernel), s_mo_push _ _⟩, (List.forall_mem_cons.mpr ⟨s_r2 mk_291 dL_law_398, (List.forall_mem_cons.mpr ⟨⟨s_goto dL_law_399 (by decide), s_mo_goto _⟩, (List.forall_mem_cons.mpr ⟨⟨s_ldAn dL_law_402 rfl, s_mo_ldA _ _⟩, (List.forall_mem_cons.mpr ⟨⟨s_sV mk_291 mk_106 ok_106 (by decide +kernel) dL_law_403 w_357 w_358 w_359 (Or.inr ⟨7, _, _, rfl, rfl⟩), s_h0 mk_291⟩, (List.forall_mem_cons.mpr ⟨⟨s_ldAn dL_law_406 rfl, s_mo_ldA _ _⟩, (List.forall_mem_cons.mpr ⟨⟨s_sV mk_291 mk_174 ok_174 (by decide +kernel) dL_law_407 w_1319 w_1320 w_1321 (Or.inr ⟨8, _, _, rfl, rfl⟩), s_h0 mk_291⟩, (List.forall_mem_cons.mpr ⟨⟨s_iceq dL_law_410 (by decide), s_mo_iceq _ _⟩, (List.forall_mem_cons.mpr ⟨⟨s_iconst dL_law_413 (by decide +kernel), s_mo_push _ _⟩, (List.forall_mem_cons.mpr ⟨s_r2 mk_291 dL_law_414, (List.forall_mem_cons.mpr ⟨⟨s_ldAn dL_law_415 rfl, s_mo_ldA _ _⟩, (List.forall_mem_cons.mpr ⟨⟨s_ldAn dL_law_416 rfl, s_mo_ldA _ _⟩, (List.forall_mem_cons.mpr ⟨⟨s_ldI dL_law_417, s_mo_ldI _ _⟩, (List.forall_mem_cons.mpr ⟨⟨s_iconst dL_law_419 (by decide +kernel), s_mo_push _ _⟩, (List.forall_mem_cons.mpr ⟨⟨s_iadd dL_law_420, s_mo_bin _ _⟩, (List.forall_mem_cons.mpr ⟨⟨s_ialdO dL_law_421, s_mo_ialdO _⟩, (List.forall_mem_cons.mpr ⟨⟨s_ldAn dL_law_422 rfl, s_mo_ldA _ _⟩, (List.forall_mem_cons.mpr ⟨⟨s_ldI dL_law_423, s_mo_ldI _ _⟩, (List.forall_mem_cons.mpr ⟨⟨s_iconst dL_law_425 (by decide +kernel), s_mo_push _ _⟩, (List.forall_mem_cons.mpr ⟨⟨s_iadd dL_law_426, s_mo_bin _ _⟩, (List.forall_mem_cons.mpr ⟨⟨s_ialdO dL_law_427, s_mo_ialdO _⟩, (List.forall_mem_cons.mpr ⟨⟨s_ldAn dL_law_428 rfl, s_mo_ldA _ _⟩, (List.forall_mem_cons.mpr ⟨⟨s_sS mk_291 mk_266 ok_266 (by decide +kernel) dL_law_429 w_753 w_754, s_h0 mk_291⟩, (List.forall_mem_cons.mpr ⟨⟨s_stI dL_law_432, s_mo_stI _ _⟩, (List.forall_mem_cons.mpr ⟨⟨s_ldAn dL_law_434 rfl, s_mo_ldA _ _⟩, (List.forall_mem_cons.mpr ⟨⟨s_ldAn dL_law_435 rfl, s_mo_ldA _ _⟩, (List.forall_mem_cons.mpr ⟨⟨s_ldI dL_law_436, s_mo_ldI _ _⟩, (List.forall_mem_cons.mpr ⟨⟨s_iconst dL_law_438 (by decide +kernel), s_mo_push _ _⟩, (List.forall_mem_cons.mpr ⟨⟨s_iadd dL_law_439, s_mo_bin _ _⟩, (List.forall_mem_cons.mpr ⟨⟨s_ialdO dL_law_440, s_mo_ialdO _⟩, (List.forall_mem_cons.mpr ⟨⟨s_ldAn dL_law_441 rfl, s_mo_ldA _ _⟩, (List.forall_mem_cons.mpr ⟨⟨s_ldI dL_law_442, s_mo_ldI _ _⟩, (List.forall_mem_cons.mpr ⟨⟨s_iconst dL_law_444 (by decide +kernel), s_mo_push _ _⟩, (List.forall_mem_cons.mpr ⟨⟨s_iadd dL_law_445, s_mo_bin _ _⟩, (List.forall_mem_cons.mpr ⟨⟨s_ialdO dL_law_446, s_mo_ialdO _⟩, (List.forall_mem_cons.mpr ⟨⟨s_sV mk_291 mk_197 ok_197 (by decide +kernel) dL_law_447 w_1446 w_1447 w_1448 (Or.inr ⟨8, _, _, rfl, rfl⟩), s_h0 mk_291⟩, (fun _ h => absurd h List.not_mem_nil)⟩)⟩)⟩)⟩)⟩)⟩)⟩)⟩)⟩)⟩)⟩)⟩)⟩)⟩)⟩)⟩)⟩)⟩)⟩)⟩)⟩)⟩)⟩)⟩)⟩)⟩)⟩)⟩)⟩)⟩)⟩)⟩)⟩)⟩)⟩)⟩)⟩)⟩)⟩)⟩)⟩)⟩)⟩)⟩)
set_option maxRecDepth 20000 in
theorem kb_291_7 : ∀ q ∈ tb_291_7, s_atx 291 yL_law cL_law q.1 q.2 := (List.forall_mem_cons.mpr ⟨⟨s_stI dL_law_450, s_mo_stI _ _⟩, (List.forall_mem_cons.mpr ⟨⟨s_ldAn dL_law_452 rfl, s_mo_ldA _ _⟩, (List.forall_mem_cons.mpr ⟨⟨s_sV mk_291 mk_148 ok_148 (by decide +kernel) dL_law_453 w_1203 w_1204 w_1205 (Or.inr ⟨8, _, _, rfl, rfl⟩), s_h0 mk_291⟩, (List.forall_mem_cons.mpr ⟨⟨s_ldI dL_law_456, s_mo_ldI _ _⟩, (List.forall_mem_cons.mpr ⟨⟨s_iceq dL_law_458 (by decide), s_mo_iceq _ _⟩, (List.forall_mem_cons.mpr ⟨⟨s_iconst dL_law_461 (by decide +kernel), s_mo_push _ _⟩, (List.forall_mem_cons.mpr ⟨s_r2 mk_291 dL_law_462, (List.forall_mem_cons.mpr ⟨⟨s_ldI dL_law_463, s_mo_ldI _ _⟩, (List.forall_mem_cons.mpr ⟨⟨s_ifne dL_law_465 (by decide), s_mo_ifne _ _⟩, (List.forall_mem_cons.mpr ⟨⟨s_ldAn dL_law_468 rfl, s_mo_ldA _ _⟩, (List.forall_mem_cons.mpr ⟨⟨s_iconst dL_law_469 (by decide +kernel), s_mo_push _ _⟩, (List.forall_mem_cons.mpr ⟨⟨s_lald dL_law_470, s_mo_lald _⟩, (List.forall_mem_cons.mpr ⟨⟨s_ldI dL_law_471, s_mo_ldI _ _⟩, (List.forall_mem_cons.mpr ⟨⟨s_i2l dL_law_473, s_mo_i2l _⟩, (List.forall_mem_cons.mpr ⟨⟨s_lcmp dL_law_474, s_mo_lcmp _⟩, (List.forall_mem_cons.mpr ⟨⟨s_ifeq dL_law_475 (by decide), s_mo_ifeq _ _⟩, (List.forall_mem_cons.mpr ⟨⟨s_iconst dL_law_478 (by decide +kernel), s_mo_push _ _⟩, (List.forall_mem_cons.mpr ⟨s_r2 mk_291 dL_law_479, (List.forall_mem_cons.mpr ⟨⟨s_goto dL_law_480 (by decide), s_mo_goto _⟩, (List.forall_mem_cons.mpr ⟨⟨s_ldAn dL_law_483 rfl, s_mo_ldA _ _⟩, (List.forall_mem_cons.mpr ⟨⟨s_ldAn dL_law_484 rfl, s_mo_ldA _ _⟩, (List.forall_mem_cons.mpr ⟨⟨s_ldI dL_law_485, s_mo_ldI _ _⟩, (List.forall_mem_cons.mpr ⟨⟨s_iconst dL_law_487 (by decide +kernel), s_mo_push _ _⟩, (List.forall_mem_cons.mpr ⟨⟨s_iadd dL_law_488, s_mo_bin _ _⟩, (List.forall_mem_cons.mpr ⟨⟨s_ialdO dL_law_489, s_mo_ialdO _⟩, (List.forall_mem_cons.mpr ⟨⟨s_ldAn dL_law_490 rfl, s_mo_ldA _ _⟩, (List.forall_mem_cons.mpr ⟨⟨s_ldI dL_law_491, s_mo_ldI _ _⟩, (List.forall_mem_cons.mpr ⟨⟨s_iconst dL_law_493 (by decide +kernel), s_mo_push _ _⟩, (List.forall_mem_cons.mpr ⟨⟨s_iadd dL_law_494, s_mo_bin _ _⟩, (List.forall_mem_cons.mpr ⟨⟨s_ialdO dL_law_495, s_mo_ialdO _⟩, (List.forall_mem_cons.mpr ⟨⟨s_ldAn dL_law_496 rfl, s_mo_ldA _ _⟩, (List.forall_mem_cons.mpr ⟨⟨s_sS mk_291 mk_267 ok_267 (by decide +kernel) dL_law_497 w_806 w_807, s_h0 mk_291⟩, (List.forall_mem_cons.mpr ⟨⟨s_stI dL_law_500, s_mo_stI _ _⟩, (List.forall_mem_cons.mpr ⟨⟨s_ldAn dL_law_502 rfl, s_mo_ldA _ _⟩, (List.forall_mem_cons.mpr ⟨⟨s_ldAn dL_law_503 rfl, s_mo_ldA _ _⟩, (List.forall_mem_cons.mpr ⟨⟨s_ldI dL_law_504, s_mo_ldI _ _⟩, (List.forall_mem_cons.mpr ⟨⟨s_iconst dL_law_506 (by decide +kernel), s_mo_push _ _⟩, (List.forall_mem_cons.mpr ⟨⟨s_iadd dL_law_507, s_mo_bin _ _⟩, (List.forall_mem_cons.mpr ⟨⟨s_ialdO dL_law_508, s_mo_ialdO _⟩, (List.forall_mem_cons.mpr ⟨⟨s_ldAn dL_law_509 rfl, s_mo_ldA _ _⟩, (List.forall_mem_cons.mpr ⟨⟨s_ldI dL_law_510, s_mo_ldI _ _⟩, (fun _ h => absurd h List.not_mem_nil)⟩)⟩)⟩)⟩)⟩)⟩)⟩)⟩)⟩)⟩)⟩)⟩)⟩)⟩)⟩)⟩)⟩)⟩)⟩)⟩)⟩)⟩)⟩)⟩)⟩)⟩)⟩)⟩)⟩)⟩)⟩)⟩)⟩)⟩)⟩)⟩)⟩)⟩)⟩)⟩)⟩)
set_option maxRecDepth 20000 in
theorem kb_291_8 : ∀ q ∈ tb_291_8, s_atx 291 yL_law cL_law q.1 q.2 := (List.forall_mem_cons.mpr ⟨⟨s_iconst dL_law_512 (by decide +kernel), s_mo_push _ _⟩, (List.forall_mem_cons.mpr ⟨⟨s_iadd dL_law_513, s_mo_bin _ _⟩, (List.forall_mem_cons.mpr ⟨⟨s_ialdO dL_law_514, s_mo_ialdO _⟩, (List.forall_mem_cons.mpr ⟨⟨s_sV mk_291 mk_198 ok_198 (by decide +kernel) dL_law_515 w_1475 w_1476 w_1477 (Or.inr ⟨8, _, _, rfl, rfl⟩), s_h0 mk_291⟩, (List.forall_mem_cons.mpr ⟨⟨s_stI dL_law_518, s_mo_stI _ _⟩, (List.forall_mem_cons.mpr ⟨⟨s_ldAn dL_law_520 rfl, s_mo_ldA _ _⟩, (List.forall_mem_cons.mpr ⟨⟨s_sV mk_291 mk_148 ok_148 (by decide +kernel) dL_law_521 w_1203 w_1204 w_1205 (Or.inr ⟨8, _, _, rfl, rfl⟩), s_h0 mk_291⟩, (List.forall_mem_cons.mpr ⟨⟨s_ldI dL_law_524, s_mo_ldI _ _⟩, (List.forall_mem_cons.mpr ⟨⟨s_iceq dL_law_526 (by decide), s_mo_iceq _ _⟩, (List.forall_mem_cons.mpr ⟨⟨s_iconst dL_law_529 (by decide +kernel), s_mo_push _ _⟩, (List.forall_mem_cons.mpr ⟨s_r2 mk_291 dL_law_530, (List.forall_mem_cons.mpr ⟨⟨s_ldI dL_law_531, s_mo_ldI _ _⟩, (List.forall_mem_cons.mpr ⟨⟨s_ifne dL_law_533 (by decide), s_mo_ifne _ _⟩, (List.forall_mem_cons.mpr ⟨⟨s_ldAn dL_law_536 rfl, s_mo_ldA _ _⟩, (List.forall_mem_cons.mpr ⟨⟨s_iconst dL_law_537 (by decide +kernel), s_mo_push _ _⟩, (List.forall_mem_cons.mpr ⟨⟨s_lald dL_law_538, s_mo_lald _⟩, (List.forall_mem_cons.mpr ⟨⟨s_ldI dL_law_539, s_mo_ldI _ _⟩, (List.forall_mem_cons.mpr ⟨⟨s_i2l dL_law_541, s_mo_i2l _⟩, (List.forall_mem_cons.mpr ⟨⟨s_lcmp dL_law_542, s_mo_lcmp _⟩, (List.forall_mem_cons.mpr ⟨⟨s_ifeq dL_law_543 (by decide), s_mo_ifeq _ _⟩, (List.forall_mem_cons.mpr ⟨⟨s_iconst dL_law_546 (by decide +kernel), s_mo_push _ _⟩, (List.forall_mem_cons.mpr ⟨s_r2 mk_291 dL_law_547, (List.forall_mem_cons.mpr ⟨⟨s_goto dL_law_548 (by decide), s_mo_goto _⟩, (List.forall_mem_cons.mpr ⟨⟨s_ldAn dL_law_551 rfl, s_mo_ldA _ _⟩, (List.forall_mem_cons.mpr ⟨⟨s_ldAn dL_law_552 rfl, s_mo_ldA _ _⟩, (List.forall_mem_cons.mpr ⟨⟨s_ldI dL_law_553, s_mo_ldI _ _⟩, (List.forall_mem_cons.mpr ⟨⟨s_iconst dL_law_555 (by decide +kernel), s_mo_push _ _⟩, (List.forall_mem_cons.mpr ⟨⟨s_iadd dL_law_556, s_mo_bin _ _⟩, (List.forall_mem_cons.mpr ⟨⟨s_ialdO dL_law_557, s_mo_ialdO _⟩, (List.forall_mem_cons.mpr ⟨⟨s_ldAn dL_law_558 rfl, s_mo_ldA _ _⟩, (List.forall_mem_cons.mpr ⟨⟨s_ldI dL_law_559, s_mo_ldI _ _⟩, (List.forall_mem_cons.mpr ⟨⟨s_iconst dL_law_561 (by decide +kernel), s_mo_push _ _⟩, (List.forall_mem_cons.mpr ⟨⟨s_iadd dL_law_562, s_mo_bin _ _⟩, (List.forall_mem_cons.mpr ⟨⟨s_ialdO dL_law_563, s_mo_ialdO _⟩, (List.forall_mem_cons.mpr ⟨⟨s_ldAn dL_law_564 rfl, s_mo_ldA _ _⟩, (List.forall_mem_cons.mpr ⟨⟨s_sS mk_291 mk_268 ok_268 (by decide +kernel) dL_law_565 w_813 w_814, s_h0 mk_291⟩, (List.forall_mem_cons.mpr ⟨⟨s_stI dL_law_568, s_mo_stI _ _⟩, (List.forall_mem_cons.mpr ⟨⟨s_ldAn dL_law_570 rfl, s_mo_ldA _ _⟩, (List.forall_mem_cons.mpr ⟨⟨s_ldAn dL_law_571 rfl, s_mo_ldA _ _⟩, (List.forall_mem_cons.mpr ⟨⟨s_ldI dL_law_572, s_mo_ldI _ _⟩, (List.forall_mem_cons.mpr ⟨⟨s_iconst dL_law_574 (by decide +kernel), s_mo_push _ _⟩, (List.forall_mem_cons.mpr ⟨⟨s_iadd dL_law_575, s_mo_bin _ _⟩, (fun _ h => absurd h List.not_mem_nil)⟩)⟩)⟩)⟩)⟩)⟩)⟩)⟩)⟩)⟩)⟩)⟩)⟩)⟩)⟩)⟩)⟩)⟩)⟩)⟩)⟩)⟩)⟩)⟩)⟩)⟩)⟩)⟩)⟩)⟩)⟩)⟩)⟩)⟩)⟩)⟩)⟩)⟩)⟩)⟩)⟩)⟩)
set_option maxRecDepth 20000 in
theorem kb_291_9 : ∀ q ∈ tb_291_9, s_atx 291 yL_law cL_law q.1 q.2 := (List.forall_mem_cons.mpr ⟨⟨s_ialdO dL_law_576, s_mo_ialdO _⟩, (List.forall_mem_cons.mpr ⟨⟨s_ldAn dL_law_577 rfl, s_mo_ldA _ _⟩, (List.forall_mem_cons.mpr ⟨⟨s_ldI dL_law_578, s_mo_ldI _ _⟩, (List.forall_mem_cons.mpr ⟨⟨s_iconst dL_law_580 (by decide +kernel), s_mo_push _ _⟩, (List.forall_mem_cons.mpr ⟨⟨s_iadd dL_law_581, s_mo_bin _ _⟩, (List.forall_mem_cons.mpr ⟨⟨s_ialdO dL_law_582, s_mo_ialdO _⟩, (List.forall_mem_cons.mpr ⟨⟨s_sV mk_291 mk_201 ok_201 (by decide +kernel) dL_law_583 w_1487 w_1488 w_1489 (Or.inr ⟨8, _, _, rfl, rfl⟩), s_h0 mk_291⟩, (List.forall_mem_cons.mpr ⟨⟨s_stI dL_law_586, s_mo_stI _ _⟩, (List.forall_mem_cons.mpr ⟨⟨s_ldAn dL_law_588 rfl, s_mo_ldA _ _⟩, (List.forall_mem_cons.mpr ⟨⟨s_sV mk_291 mk_148 ok_148 (by decide +kernel) dL_law_589 w_1203 w_1204 w_1205 (Or.inr ⟨8, _, _, rfl, rfl⟩), s_h0 mk_291⟩, (List.forall_mem_cons.mpr ⟨⟨s_ldI dL_law_592, s_mo_ldI _ _⟩, (List.forall_mem_cons.mpr ⟨⟨s_iceq dL_law_594 (by decide), s_mo_iceq _ _⟩, (List.forall_mem_cons.mpr ⟨⟨s_iconst dL_law_597 (by decide +kernel), s_mo_push _ _⟩, (List.forall_mem_cons.mpr ⟨s_r2 mk_291 dL_law_598, (List.forall_mem_cons.mpr ⟨⟨s_ldI dL_law_599, s_mo_ldI _ _⟩, (List.forall_mem_cons.mpr ⟨⟨s_ifne dL_law_601 (by decide), s_mo_ifne _ _⟩, (List.forall_mem_cons.mpr ⟨⟨s_ldAn dL_law_604 rfl, s_mo_ldA _ _⟩, (List.forall_mem_cons.mpr ⟨⟨s_iconst dL_law_605 (by decide +kernel), s_mo_push _ _⟩, (List.forall_mem_cons.mpr ⟨⟨s_lald dL_law_606, s_mo_lald _⟩, (List.forall_mem_cons.mpr ⟨⟨s_ldI dL_law_607, s_mo_ldI _ _⟩, (List.forall_mem_cons.mpr ⟨⟨s_i2l dL_law_609, s_mo_i2l _⟩, (List.forall_mem_cons.mpr ⟨⟨s_lcmp dL_law_610, s_mo_lcmp _⟩, (List.forall_mem_cons.mpr ⟨⟨s_ifeq dL_law_611 (by decide), s_mo_ifeq _ _⟩, (List.forall_mem_cons.mpr ⟨⟨s_iconst dL_law_614 (by decide +kernel), s_mo_push _ _⟩, (List.forall_mem_cons.mpr ⟨s_r2 mk_291 dL_law_615, (List.forall_mem_cons.mpr ⟨⟨s_goto dL_law_616 (by decide), s_mo_goto _⟩, (List.forall_mem_cons.mpr ⟨⟨s_ldAn dL_law_619 rfl, s_mo_ldA _ _⟩, (List.forall_mem_cons.mpr ⟨⟨s_ldAn dL_law_620 rfl, s_mo_ldA _ _⟩, (List.forall_mem_cons.mpr ⟨⟨s_ldI dL_law_621, s_mo_ldI _ _⟩, (List.forall_mem_cons.mpr ⟨⟨s_iconst dL_law_623 (by decide +kernel), s_mo_push _ _⟩, (List.forall_mem_cons.mpr ⟨⟨s_iadd dL_law_624, s_mo_bin _ _⟩, (List.forall_mem_cons.mpr ⟨⟨s_ialdO dL_law_625, s_mo_ialdO _⟩, (List.forall_mem_cons.mpr ⟨⟨s_ldAn dL_law_626 rfl, s_mo_ldA _ _⟩, (List.forall_mem_cons.mpr ⟨⟨s_sS mk_291 mk_269 ok_269 (by decide +kernel) dL_law_627 w_823 w_824, s_h0 mk_291⟩, (List.forall_mem_cons.mpr ⟨⟨s_stI dL_law_630, s_mo_stI _ _⟩, (List.forall_mem_cons.mpr ⟨⟨s_ldAn dL_law_632 rfl, s_mo_ldA _ _⟩, (List.forall_mem_cons.mpr ⟨⟨s_ldAn dL_law_633 rfl, s_mo_ldA _ _⟩, (List.forall_mem_cons.mpr ⟨⟨s_ldI dL_law_634, s_mo_ldI _ _⟩, (List.forall_mem_cons.mpr ⟨⟨s_iconst dL_law_636 (by decide +kernel), s_mo_push _ _⟩, (List.forall_mem_cons.mpr ⟨⟨s_iadd dL_law_637, s_mo_bin _ _⟩, (List.forall_mem_cons.mpr ⟨⟨s_ialdO dL_law_638, s_mo_ialdO _⟩, (List.forall_mem_cons.mpr ⟨⟨s_sV mk_291 mk_202 ok_202 (by decide +kernel) dL_law_639 w_1495 w_1496 w_1497 (Or.inr ⟨8, _, _, rfl, rfl⟩), s_h0 mk_291⟩, (fun _ h => absurd h List.not_mem_nil)⟩)⟩)⟩)⟩)⟩)⟩)⟩)⟩)⟩)⟩)⟩)⟩)⟩)⟩)⟩)⟩)⟩)⟩)⟩)⟩)⟩)⟩)⟩)⟩)⟩)⟩)⟩)⟩)⟩)⟩)⟩)⟩)⟩)⟩)⟩)⟩)⟩)⟩)⟩)⟩)⟩)⟩)
set_option maxRecDepth 20000 in
theorem kb_291_10 : ∀ q ∈ tb_291_10, s_atx 291 yL_law cL_law q.1 q.2 := (List.forall_mem_cons.mpr ⟨⟨s_stI dL_law_642, s_mo_stI _ _⟩, (List.forall_mem_cons.mpr ⟨⟨s_ldAn dL_law_644 rfl, s_mo_ldA _ _⟩, (List.forall_mem_cons.mpr ⟨⟨s_sV mk_291 mk_148 ok_148 (by decide +kernel) dL_law_645 w_1203 w_1204 w_1205 (Or.inr ⟨8, _, _, rfl, rfl⟩), s_h0 mk_291⟩, (List.forall_mem_cons.mpr ⟨⟨s_ldI dL_law_648, s_mo_ldI _ _⟩, (List.forall_mem_cons.mpr ⟨⟨s_iceq dL_law_650 (by decide), s_mo_iceq _ _⟩, (List.forall_mem_cons.mpr ⟨⟨s_iconst dL_law_653 (by decide +kernel), s_mo_push _ _⟩, (List.forall_mem_cons.mpr ⟨s_r2 mk_291 dL_law_654, (List.forall_mem_cons.mpr ⟨⟨s_ldI dL_law_655, s_mo_ldI _ _⟩, (List.forall_mem_cons.mpr ⟨⟨s_ifne dL_law_657 (by decide), s_mo_ifne _ _⟩, (List.forall_mem_cons.mpr ⟨⟨s_ldAn dL_law_660 rfl, s_mo_ldA _ _⟩, (List.forall_mem_cons.mpr ⟨⟨s_iconst dL_law_661 (by decide +kernel), s_mo_push _ _⟩, (List.forall_mem_cons.mpr ⟨⟨s_lald dL_law_662, s_mo_lald _⟩, (List.forall_mem_cons.mpr ⟨⟨s_ldI dL_law_663, s_mo_ldI _ _⟩, (List.forall_mem_cons.mpr ⟨⟨s_i2l dL_law_665, s_mo_i2l _⟩, (List.forall_mem_cons.mpr ⟨⟨s_lcmp dL_law_666, s_mo_lcmp _⟩, (List.forall_mem_cons.mpr ⟨⟨s_ifeq dL_law_667 (by decide), s_mo_ifeq _ _⟩, (List.forall_mem_cons.mpr ⟨⟨s_iconst dL_law_670 (by decide +kernel), s_mo_push _ _⟩, (List.forall_mem_cons.mpr ⟨s_r2 mk_291 dL_law_671, (List.forall_mem_cons.mpr ⟨⟨s_goto dL_law_672 (by decide), s_mo_goto _⟩, (List.forall_mem_cons.mpr ⟨⟨s_ldAn dL_law_675 rfl, s_mo_ldA _ _⟩, (List.forall_mem_cons.mpr ⟨⟨s_ldAn dL_law_676 rfl, s_mo_ldA _ _⟩, (List.forall_mem_cons.mpr ⟨⟨s_ldI dL_law_677, s_mo_ldI _ _⟩, (List.forall_mem_cons.mpr ⟨⟨s_iconst dL_law_679 (by decide +kernel), s_mo_push _ _⟩, (List.forall_mem_cons.mpr ⟨⟨s_iadd dL_law_680, s_mo_bin _ _⟩, (List.forall_mem_cons.mpr ⟨⟨s_ialdO dL_law_681, s_mo_ialdO _⟩, (List.forall_mem_cons.mpr ⟨⟨s_ldAn dL_law_682 rfl, s_mo_ldA _ _⟩, (List.forall_mem_cons.mpr ⟨⟨s_ldI dL_law_683, s_mo_ldI _ _⟩, (List.forall_mem_cons.mpr ⟨⟨s_iconst dL_law_685 (by decide +kernel), s_mo_push _ _⟩, (List.forall_mem_cons.mpr ⟨⟨s_iadd dL_law_686, s_mo_bin _ _⟩, (List.forall_mem_cons.mpr ⟨⟨s_ialdO dL_law_687, s_mo_ialdO _⟩, (List.forall_mem_cons.mpr ⟨⟨s_ldAn dL_law_688 rfl, s_mo_ldA _ _⟩, (List.forall_mem_cons.mpr ⟨⟨s_sS mk_291 mk_270 ok_270 (by decide +kernel) dL_law_689 w_830 w_831, s_h0 mk_291⟩, (List.forall_mem_cons.mpr ⟨⟨s_stI dL_law_692, s_mo_stI _ _⟩, (List.forall_mem_cons.mpr ⟨⟨s_ldAn dL_law_694 rfl, s_mo_ldA _ _⟩, (List.forall_mem_cons.mpr ⟨⟨s_ldAn dL_law_695 rfl, s_mo_ldA _ _⟩, (List.forall_mem_cons.mpr ⟨⟨s_ldI dL_law_696, s_mo_ldI _ _⟩, (List.forall_mem_cons.mpr ⟨⟨s_iconst dL_law_698 (by decide +kernel), s_mo_push _ _⟩, (List.forall_mem_cons.mpr ⟨⟨s_iadd dL_law_699, s_mo_bin _ _⟩, (List.forall_mem_cons.mpr ⟨⟨s_ialdO dL_law_700, s_mo_ialdO _⟩, (List.forall_mem_cons.mpr ⟨⟨s_ldAn dL_law_701 rfl, s_mo_ldA _ _⟩, (List.forall_mem_cons.mpr ⟨⟨s_ldI dL_law_702, s_mo_ldI _ _⟩, (fun _ h => absurd h List.not_mem_nil)⟩)⟩)⟩)⟩)⟩)⟩)⟩)⟩)⟩)⟩)⟩)⟩)⟩)⟩)⟩)⟩)⟩)⟩)⟩)⟩)⟩)⟩)⟩)⟩)⟩)⟩)⟩)⟩)⟩)⟩)⟩)⟩)⟩)⟩)⟩)⟩)⟩)⟩)⟩)⟩)⟩)
set_option maxRecDepth 20000 in
theorem kb_291_11 : ∀ q ∈ tb_291_11, s_atx 291 yL_law cL_law q.1 q.2 := (List.forall_mem_cons.mpr ⟨⟨s_iconst dL_law_704 (by decide +kernel), s_mo_push _ _⟩, (List.forall_mem_cons.mpr ⟨⟨s_iadd dL_law_705, s_mo_bin _ _⟩, (List.forall_mem_cons.mpr ⟨⟨s_ialdO dL_law_706, s_mo_ialdO _⟩, (List.forall_mem_cons.mpr ⟨⟨s_sV mk_291 mk_203 ok_203 (by decide +kernel) dL_law_707 w_1499 w_1500 w_1501 (Or.inr ⟨8, _, _, rfl, rfl⟩), s_h0 mk_291⟩, (List.forall_mem_cons.mpr ⟨⟨s_stI dL_law_710, s_mo_stI _ _⟩, (List.forall_mem_cons.mpr ⟨⟨s_ldAn dL_law_712 rfl, s_mo_ldA _ _⟩, (List.forall_mem_cons.mpr ⟨⟨s_sV mk_291 mk_148 ok_148 (by decide +kernel) dL_law_713 w_1203 w_1204 w_1205 (Or.inr ⟨8, _, _, rfl, rfl⟩), s_h0 mk_291⟩, (List.forall_mem_cons.mpr ⟨⟨s_ldI dL_law_716, s_mo_ldI _ _⟩, (List.forall_mem_cons.mpr ⟨⟨s_iceq dL_law_718 (by decide), s_mo_iceq _ _⟩, (List.forall_mem_cons.mpr ⟨⟨s_iconst dL_law_721 (by decide +kernel), s_mo_push _ _⟩, (List.forall_mem_cons.mpr ⟨s_r2 mk_291 dL_law_722, (List.forall_mem_cons.mpr ⟨⟨s_ldI dL_law_723, s_mo_ldI _ _⟩, (List.forall_mem_cons.mpr ⟨⟨s_ifne dL_law_725 (by decide), s_mo_ifne _ _⟩, (List.forall_mem_cons.mpr ⟨⟨s_ldAn dL_law_728 rfl, s_mo_ldA _ _⟩, (List.forall_mem_cons.mpr ⟨⟨s_iconst dL_law_729 (by decide +kernel), s_mo_push _ _⟩, (List.forall_mem_cons.mpr ⟨⟨s_lald dL_law_730, s_mo_lald _⟩, (List.forall_mem_cons.mpr ⟨⟨s_ldI dL_law_731, s_mo_ldI _ _⟩, (List.forall_mem_cons.mpr ⟨⟨s_i2l dL_law_733, s_mo_i2l _⟩, (List.forall_mem_cons.mpr ⟨⟨s_lcmp dL_law_734, s_mo_lcmp _⟩, (List.forall_mem_cons.mpr ⟨⟨s_ifeq dL_law_735 (by decide), s_mo_ifeq _ _⟩, (List.forall_mem_cons.mpr ⟨⟨s_iconst dL_law_738 (by decide +kernel), s_mo_push _ _⟩, (List.forall_mem_cons.mpr ⟨s_r2 mk_291 dL_law_739, (List.forall_mem_cons.mpr ⟨⟨s_goto dL_law_740 (by decide), s_mo_goto _⟩, (List.forall_mem_cons.mpr ⟨⟨s_ldAn dL_law_743 rfl, s_mo_ldA _ _⟩, (List.forall_mem_cons.mpr ⟨⟨s_ldAn dL_law_744 rfl, s_mo_ldA _ _⟩, (List.forall_mem_cons.mpr ⟨⟨s_ldI dL_law_745, s_mo_ldI _ _⟩, (List.forall_mem_cons.mpr ⟨⟨s_iconst dL_law_747 (by decide +kernel), s_mo_push _ _⟩, (List.forall_mem_cons.mpr ⟨⟨s_iadd dL_law_748, s_mo_bin _ _⟩, (List.forall_mem_cons.mpr ⟨⟨s_ialdO dL_law_749, s_mo_ialdO _⟩, (List.forall_mem_cons.mpr ⟨⟨s_ldAn dL_law_750 rfl, s_mo_ldA _ _⟩, (List.forall_mem_cons.mpr ⟨⟨s_ldI dL_law_751, s_mo_ldI _ _⟩, (List.forall_mem_cons.mpr ⟨⟨s_iconst dL_law_753 (by decide +kernel), s_mo_push _ _⟩, (List.forall_mem_cons.mpr ⟨⟨s_iadd dL_law_754, s_mo_bin _ _⟩, (List.forall_mem_cons.mpr ⟨⟨s_ialdO dL_law_755, s_mo_ialdO _⟩, (List.forall_mem_cons.mpr ⟨⟨s_ldAn dL_law_756 rfl, s_mo_ldA _ _⟩, (List.forall_mem_cons.mpr ⟨⟨s_ldI dL_law_757, s_mo_ldI _ _⟩, (List.forall_mem_cons.mpr ⟨⟨s_iconst dL_law_759 (by decide +kernel), s_mo_push _ _⟩, (List.forall_mem_cons.mpr ⟨⟨s_iadd dL_law_760, s_mo_bin _ _⟩, (List.forall_mem_cons.mpr ⟨⟨s_ialdO dL_law_761, s_mo_ialdO _⟩, (List.forall_mem_cons.mpr ⟨⟨s_ldAn dL_law_762 rfl, s_mo_ldA _ _⟩, (List.forall_mem_cons.mpr ⟨⟨s_sS mk_291 mk_271 ok_271 (by decide +kernel) dL_law_763 w_852 w_853, s_h0 mk_291⟩, (List.forall_mem_cons.mpr ⟨⟨s_stI dL_law_766, s_mo_stI _ _⟩, (fun _ h => absurd h List.not_mem_nil)⟩)⟩)⟩)⟩)⟩)⟩)⟩)⟩)⟩)⟩)⟩)⟩)⟩)⟩)⟩)⟩)⟩)⟩)⟩)⟩)⟩)⟩)⟩)⟩)⟩)⟩)⟩)⟩)⟩)⟩)⟩)⟩)⟩)⟩)⟩)⟩)⟩)⟩)⟩)⟩)⟩)⟩)
set_option maxRecDepth 20000 in
theorem kb_291_12 : ∀ q ∈ tb_291_12, s_atx 291 yL_law cL_law q.1 q.2 := (List.forall_mem_cons.mpr ⟨⟨s_ldAn dL_law_768 rfl, s_mo_ldA _ _⟩, (List.forall_mem_cons.mpr ⟨⟨s_ldAn dL_law_769 rfl, s_mo_ldA _ _⟩, (List.forall_mem_cons.mpr ⟨⟨s_ldI dL_law_770, s_mo_ldI _ _⟩, (List.forall_mem_cons.mpr ⟨⟨s_iconst dL_law_772 (by decide +kernel), s_mo_push _ _⟩, (List.forall_mem_cons.mpr ⟨⟨s_iadd dL_law_773, s_mo_bin _ _⟩, (List.forall_mem_cons.mpr ⟨⟨s_ialdO dL_law_774, s_mo_ialdO _⟩, (List.forall_mem_cons.mpr ⟨⟨s_ldAn dL_law_775 rfl, s_mo_ldA _ _⟩, (List.forall_mem_cons.mpr ⟨⟨s_ldI dL_law_776, s_mo_ldI _ _⟩, (List.forall_mem_cons.mpr ⟨⟨s_iconst dL_law_778 (by decide +kernel), s_mo_push _ _⟩, (List.forall_mem_cons.mpr ⟨⟨s_iadd dL_law_779, s_mo_bin _ _⟩, (List.forall_mem_cons.mpr ⟨⟨s_ialdO dL_law_780, s_mo_ialdO _⟩, (List.forall_mem_cons.mpr ⟨⟨s_ldAn dL_law_781 rfl, s_mo_ldA _ _⟩, (List.forall_mem_cons.mpr ⟨⟨s_ldI dL_law_782, s_mo_ldI _ _⟩, (List.forall_mem_cons.mpr ⟨⟨s_iconst dL_law_784 (by decide +kernel), s_mo_push _ _⟩, (List.forall_mem_cons.mpr ⟨⟨s_iadd dL_law_785, s_mo_bin _ _⟩, (List.forall_mem_cons.mpr ⟨⟨s_ialdO dL_law_786, s_mo_ialdO _⟩, (List.forall_mem_cons.mpr ⟨⟨s_sV mk_291 mk_204 ok_204 (by decide +kernel) dL_law_787 w_1513 w_1514 w_1515 (Or.inr ⟨8, _, _, rfl, rfl⟩), s_h0 mk_291⟩, (List.forall_mem_cons.mpr ⟨⟨s_stI dL_law_790, s_mo_stI _ _⟩, (List.forall_mem_cons.mpr ⟨⟨s_ldAn dL_law_792 rfl, s_mo_ldA _ _⟩, (List.forall_mem_cons.mpr ⟨⟨s_sV mk_291 mk_148 ok_148 (by decide +kernel) dL_law_793 w_1203 w_1204 w_1205 (Or.inr ⟨8, _, _, rfl, rfl⟩), s_h0 mk_291⟩, (List.forall_mem_cons.mpr ⟨⟨s_ldI dL_law_796, s_mo_ldI _ _⟩, (List.forall_mem_cons.mpr ⟨⟨s_iceq dL_law_798 (by decide), s_mo_iceq _ _⟩, (List.forall_mem_cons.mpr ⟨⟨s_iconst dL_law_801 (by decide +kernel), s_mo_push _ _⟩, (List.forall_mem_cons.mpr ⟨s_r2 mk_291 dL_law_802, (List.forall_mem_cons.mpr ⟨⟨s_ldI dL_law_803, s_mo_ldI _ _⟩, (List.forall_mem_cons.mpr ⟨⟨s_ifne dL_law_805 (by decide), s_mo_ifne _ _⟩, (List.forall_mem_cons.mpr ⟨⟨s_ldAn dL_law_808 rfl, s_mo_ldA _ _⟩, (List.forall_mem_cons.mpr ⟨⟨s_iconst dL_law_809 (by decide +kernel), s_mo_push _ _⟩, (List.forall_mem_cons.mpr ⟨⟨s_lald dL_law_810, s_mo_lald _⟩, (List.forall_mem_cons.mpr ⟨⟨s_ldI dL_law_811, s_mo_ldI _ _⟩, (List.forall_mem_cons.mpr ⟨⟨s_ifeq dL_law_813 (by decide), s_mo_ifeq _ _⟩, (List.forall_mem_cons.mpr ⟨⟨s_lconst dL_law_816 (by decide +kernel), s_mo_push _ _⟩, (List.forall_mem_cons.mpr ⟨⟨s_goto dL_law_817 (by decide), s_mo_goto _⟩, (List.forall_mem_cons.mpr ⟨⟨s_lconst dL_law_820 (by decide +kernel), s_mo_push _ _⟩, (List.forall_mem_cons.mpr ⟨⟨s_lcmp dL_law_821, s_mo_lcmp _⟩, (List.forall_mem_cons.mpr ⟨⟨s_ifeq dL_law_822 (by decide), s_mo_ifeq _ _⟩, (List.forall_mem_cons.mpr ⟨⟨s_iconst dL_law_825 (by decide +kernel), s_mo_push _ _⟩, (List.forall_mem_cons.mpr ⟨s_r2 mk_291 dL_law_826, (List.forall_mem_cons.mpr ⟨⟨s_goto dL_law_827 (by decide), s_mo_goto _⟩, (List.forall_mem_cons.mpr ⟨⟨s_ldAn dL_law_830 rfl, s_mo_ldA _ _⟩, (List.forall_mem_cons.mpr ⟨⟨s_ldAn dL_law_831 rfl, s_mo_ldA _ _⟩, (fun _ h => absurd h List.not_mem_nil)⟩)⟩)⟩)⟩)⟩)⟩)⟩)⟩)⟩)⟩)⟩)⟩)⟩)⟩)⟩)⟩)⟩)⟩)⟩)⟩)⟩)⟩)⟩)⟩)⟩)⟩)⟩)⟩)⟩)⟩)⟩)⟩)⟩)⟩)⟩)⟩)⟩)⟩)⟩)⟩)⟩)
set_option maxRecDepth 20000 in
theorem kb_291_13 : ∀ q ∈ tb_291_13, s_atx 291 yL_law cL_law q.1 q.2 := (List.forall_mem_cons.mpr ⟨⟨s_ldI dL_law_832, s_mo_ldI _ _⟩, (List.forall_mem_cons.mpr ⟨⟨s_iconst dL_law_834 (by decide +kernel), s_mo_push _ _⟩, (List.forall_mem_cons.mpr ⟨⟨s_iadd dL_law_835, s_mo_bin _ _⟩, (List.forall_mem_cons.mpr ⟨⟨s_ialdO dL_law_836, s_mo_ialdO _⟩, (List.forall_mem_cons.mpr ⟨⟨s_ldAn dL_law_837 rfl, s_mo_ldA _ _⟩, (List.forall_mem_cons.mpr ⟨⟨s_sS mk_291 mk_272 ok_272 (by decide +kernel) dL_law_838 w_865 w_866, s_h0 mk_291⟩, (List.forall_mem_cons.mpr ⟨⟨s_stI dL_law_841, s_mo_stI _ _⟩, (List.forall_mem_cons.mpr ⟨⟨s_ldAn dL_law_843 rfl, s_mo_ldA _ _⟩, (List.forall_mem_cons.mpr ⟨⟨s_ldAn dL_law_844 rfl, s_mo_ldA _ _⟩, (List.forall_mem_cons.mpr ⟨⟨s_ldI dL_law_845, s_mo_ldI _ _⟩, (List.forall_mem_cons.mpr ⟨⟨s_iconst dL_law_847 (by decide +kernel), s_mo_push _ _⟩, (List.forall_mem_cons.mpr ⟨⟨s_iadd dL_law_848, s_mo_bin _ _⟩, (List.forall_mem_cons.mpr ⟨⟨s_ialdO dL_law_849, s_mo_ialdO _⟩, (List.forall_mem_cons.mpr ⟨⟨s_sV mk_291 mk_205 ok_205 (by decide +kernel) dL_law_850 w_1521 w_1522 w_1523 (Or.inr ⟨8, _, _, rfl, rfl⟩), s_h0 mk_291⟩, (List.forall_mem_cons.mpr ⟨⟨s_stI dL_law_853, s_mo_stI _ _⟩, (List.forall_mem_cons.mpr ⟨⟨s_ldAn dL_law_855 rfl, s_mo_ldA _ _⟩, (List.forall_mem_cons.mpr ⟨⟨s_sV mk_291 mk_148 ok_148 (by decide +kernel) dL_law_856 w_1203 w_1204 w_1205 (Or.inr ⟨8, _, _, rfl, rfl⟩), s_h0 mk_291⟩, (List.forall_mem_cons.mpr ⟨⟨s_ldI dL_law_859, s_mo_ldI _ _⟩, (List.forall_mem_cons.mpr ⟨⟨s_iceq dL_law_861 (by decide), s_mo_iceq _ _⟩, (List.forall_mem_cons.mpr ⟨⟨s_iconst dL_law_864 (by decide +kernel), s_mo_push _ _⟩, (List.forall_mem_cons.mpr ⟨s_r2 mk_291 dL_law_865, (List.forall_mem_cons.mpr ⟨⟨s_ldI dL_law_866, s_mo_ldI _ _⟩, (List.forall_mem_cons.mpr ⟨⟨s_ifne dL_law_868 (by decide), s_mo_ifne _ _⟩, (List.forall_mem_cons.mpr ⟨⟨s_ldAn dL_law_871 rfl, s_mo_ldA _ _⟩, (List.forall_mem_cons.mpr ⟨⟨s_iconst dL_law_872 (by decide +kernel), s_mo_push _ _⟩, (List.forall_mem_cons.mpr ⟨⟨s_lald dL_law_873, s_mo_lald _⟩, (List.forall_mem_cons.mpr ⟨⟨s_ldI dL_law_874, s_mo_ldI _ _⟩, (List.forall_mem_cons.mpr ⟨⟨s_i2l dL_law_876, s_mo_i2l _⟩, (List.forall_mem_cons.mpr ⟨⟨s_lcmp dL_law_877, s_mo_lcmp _⟩, (List.forall_mem_cons.mpr ⟨⟨s_ifeq dL_law_878 (by decide), s_mo_ifeq _ _⟩, (List.forall_mem_cons.mpr ⟨⟨s_iconst dL_law_881 (by decide +kernel), s_mo_push _ _⟩, (List.forall_mem_cons.mpr ⟨s_r2 mk_291 dL_law_882, (List.forall_mem_cons.mpr ⟨⟨s_goto dL_law_883 (by decide), s_mo_goto _⟩, (List.forall_mem_cons.mpr ⟨⟨s_ldAn dL_law_886 rfl, s_mo_ldA _ _⟩, (List.forall_mem_cons.mpr ⟨⟨s_ldAn dL_law_887 rfl, s_mo_ldA _ _⟩, (List.forall_mem_cons.mpr ⟨⟨s_ldI dL_law_888, s_mo_ldI _ _⟩, (List.forall_mem_cons.mpr ⟨⟨s_iconst dL_law_890 (by decide +kernel), s_mo_push _ _⟩, (List.forall_mem_cons.mpr ⟨⟨s_iadd dL_law_891, s_mo_bin _ _⟩, (List.forall_mem_cons.mpr ⟨⟨s_ialdO dL_law_892, s_mo_ialdO _⟩, (List.forall_mem_cons.mpr ⟨⟨s_ldAn dL_law_893 rfl, s_mo_ldA _ _⟩, (List.forall_mem_cons.mpr ⟨⟨s_ldI dL_law_894, s_mo_ldI _ _⟩, (fun _ h => absurd h List.not_mem_nil)⟩)⟩)⟩)⟩)⟩)⟩)⟩)⟩)⟩)⟩)⟩)⟩)⟩)⟩)⟩)⟩)⟩)⟩)⟩)⟩)⟩)⟩)⟩)⟩)⟩)⟩)⟩)⟩)⟩)⟩)⟩)⟩)⟩)⟩)⟩)⟩)⟩)⟩)⟩)⟩)⟩)
set_option maxRecDepth 20000 in
theorem kb_291_14 : ∀ q ∈ tb_291_14, s_atx 291 yL_law cL_law q.1 q.2 := (List.forall_mem_cons.mpr ⟨⟨s_iconst dL_law_896 (by decide +kernel), s_mo_push _ _⟩, (List.forall_mem_cons.mpr ⟨⟨s_iadd dL_law_897, s_mo_bin _ _⟩, (List.forall_mem_cons.mpr ⟨⟨s_ialdO dL_law_898, s_mo_ialdO _⟩, (List.forall_mem_cons.mpr ⟨⟨s_ldAn dL_law_899 rfl, s_mo_ldA _ _⟩, (List.forall_mem_cons.mpr ⟨⟨s_ldI dL_law_900, s_mo_ldI _ _⟩, (List.forall_mem_cons.mpr ⟨⟨s_iconst dL_law_902 (by decide +kernel), s_mo_push _ _⟩, (List.forall_mem_cons.mpr ⟨⟨s_iadd dL_law_903, s_mo_bin _ _⟩, (List.forall_mem_cons.mpr ⟨⟨s_ialdO dL_law_904, s_mo_ialdO _⟩, (List.forall_mem_cons.mpr ⟨⟨s_ldAn dL_law_905 rfl, s_mo_ldA _ _⟩, (List.forall_mem_cons.mpr ⟨⟨s_sS mk_291 mk_273 ok_273 (by decide +kernel) dL_law_906 w_872 w_873, s_h0 mk_291⟩, (List.forall_mem_cons.mpr ⟨⟨s_stI dL_law_909, s_mo_stI _ _⟩, (List.forall_mem_cons.mpr ⟨⟨s_ldAn dL_law_911 rfl, s_mo_ldA _ _⟩, (List.forall_mem_cons.mpr ⟨⟨s_ldAn dL_law_912 rfl, s_mo_ldA _ _⟩, (List.forall_mem_cons.mpr ⟨⟨s_ldI dL_law_913, s_mo_ldI _ _⟩, (List.forall_mem_cons.mpr ⟨⟨s_iconst dL_law_915 (by decide +kernel), s_mo_push _ _⟩, (List.forall_mem_cons.mpr ⟨⟨s_iadd dL_law_916, s_mo_bin _ _⟩, (List.forall_mem_cons.mpr ⟨⟨s_ialdO dL_law_917, s_mo_ialdO _⟩, (List.forall_mem_cons.mpr ⟨⟨s_ldAn dL_law_918 rfl, s_mo_ldA _ _⟩, (List.forall_mem_cons.mpr ⟨⟨s_ldI dL_law_919, s_mo_ldI _ _⟩, (List.forall_mem_cons.mpr ⟨⟨s_iconst dL_law_921 (by decide +kernel), s_mo_push _ _⟩, (List.forall_mem_cons.mpr ⟨⟨s_iadd dL_law_922, s_mo_bin _ _⟩, (List.forall_mem_cons.mpr ⟨⟨s_ialdO dL_law_923, s_mo_ialdO _⟩, (List.forall_mem_cons.mpr ⟨⟨s_ldAn dL_law_924 rfl, s_mo_ldA _ _⟩, (List.forall_mem_cons.mpr ⟨⟨s_ldI dL_law_925, s_mo_ldI _ _⟩, (List.forall_mem_cons.mpr ⟨⟨s_iconst dL_law_927 (by decide +kernel), s_mo_push _ _⟩, (List.forall_mem_cons.mpr ⟨⟨s_iadd dL_law_928, s_mo_bin _ _⟩, (List.forall_mem_cons.mpr ⟨⟨s_ialdO dL_law_929, s_mo_ialdO _⟩, (List.forall_mem_cons.mpr ⟨⟨s_sV mk_291 mk_208 ok_208 (by decide +kernel) dL_law_930 w_1525 w_1526 w_1527 (Or.inr ⟨8, _, _, rfl, rfl⟩), s_h0 mk_291⟩, (List.forall_mem_cons.mpr ⟨⟨s_stI dL_law_933, s_mo_stI _ _⟩, (List.forall_mem_cons.mpr ⟨⟨s_ldAn dL_law_935 rfl, s_mo_ldA _ _⟩, (List.forall_mem_cons.mpr ⟨⟨s_sV mk_291 mk_148 ok_148 (by decide +kernel) dL_law_936 w_1203 w_1204 w_1205 (Or.inr ⟨8, _, _, rfl, rfl⟩), s_h0 mk_291⟩, (List.forall_mem_cons.mpr ⟨⟨s_ldI dL_law_939, s_mo_ldI _ _⟩, (List.forall_mem_cons.mpr ⟨⟨s_iceq dL_law_941 (by decide), s_mo_iceq _ _⟩, (List.forall_mem_cons.mpr ⟨⟨s_iconst dL_law_944 (by decide +kernel), s_mo_push _ _⟩, (List.forall_mem_cons.mpr ⟨s_r2 mk_291 dL_law_945, (List.forall_mem_cons.mpr ⟨⟨s_ldI dL_law_946, s_mo_ldI _ _⟩, (List.forall_mem_cons.mpr ⟨⟨s_ifne dL_law_948 (by decide), s_mo_ifne _ _⟩, (List.forall_mem_cons.mpr ⟨⟨s_ldAn dL_law_951 rfl, s_mo_ldA _ _⟩, (List.forall_mem_cons.mpr ⟨⟨s_iconst dL_law_952 (by decide +kernel), s_mo_push _ _⟩, (List.forall_mem_cons.mpr ⟨⟨s_lald dL_law_953, s_mo_lald _⟩, (List.forall_mem_cons.mpr ⟨⟨s_ldI dL_law_954, s_mo_ldI _ _⟩, (List.forall_mem_cons.mpr ⟨⟨s_i2l dL_law_956, s_mo_i2l _⟩, (List.forall_mem_cons.mpr ⟨⟨s_lcmp dL_law_957, s_mo_lcmp _⟩, (List.forall_mem_cons.mpr ⟨⟨s_ifeq dL_law_958 (by decide), s_mo_ifeq _ _⟩, (fun _ h => absurd h List.not_mem_nil)⟩)⟩)⟩)⟩)⟩)⟩)⟩)⟩)⟩)⟩)⟩)⟩)⟩)⟩)⟩)⟩)⟩)⟩)⟩)⟩)⟩)⟩)⟩)⟩)⟩)⟩)⟩)⟩)⟩)⟩)⟩)⟩)⟩)⟩)⟩)⟩)⟩)⟩)⟩)⟩)⟩)⟩)⟩)⟩)
set_option maxRecDepth 20000 in
theorem kb_291_15 : ∀ q ∈ tb_291_15, s_atx 291 yL_law cL_law q.1 q.2 := (List.forall_mem_cons.mpr ⟨⟨s_iconst dL_law_961 (by decide +kernel), s_mo_push _ _⟩, (List.forall_mem_cons.mpr ⟨s_r2 mk_291 dL_law_962, (List.forall_mem_cons.mpr ⟨⟨s_goto dL_law_963 (by decide), s_mo_goto _⟩, (List.forall_mem_cons.mpr ⟨⟨s_ldAn dL_law_966 rfl, s_mo_ldA _ _⟩, (List.forall_mem_cons.mpr ⟨⟨s_ldAn dL_law_967 rfl, s_mo_ldA _ _⟩, (List.forall_mem_cons.mpr ⟨⟨s_ldI dL_law_968, s_mo_ldI _ _⟩, (List.forall_mem_cons.mpr ⟨⟨s_iconst dL_law_970 (by decide +kernel), s_mo_push _ _⟩, (List.forall_mem_cons.mpr ⟨⟨s_iadd dL_law_971, s_mo_bin _ _⟩, (List.forall_mem_cons.mpr ⟨⟨s_ialdO dL_law_972, s_mo_ialdO _⟩, (List.forall_mem_cons.mpr ⟨⟨s_ldAn dL_law_973 rfl, s_mo_ldA _ _⟩, (List.forall_mem_cons.mpr ⟨⟨s_ldI dL_law_974, s_mo_ldI _ _⟩, (List.forall_mem_cons.mpr ⟨⟨s_iconst dL_law_976 (by decide +kernel), s_mo_push _ _⟩, (List.forall_mem_cons.mpr ⟨⟨s_iadd dL_law_977, s_mo_bin _ _⟩, (List.forall_mem_cons.mpr ⟨⟨s_ialdO dL_law_978, s_mo_ialdO _⟩, (List.forall_mem_cons.mpr ⟨⟨s_ldAn dL_law_979 rfl, s_mo_ldA _ _⟩, (List.forall_mem_cons.mpr ⟨⟨s_ldI dL_law_980, s_mo_ldI _ _⟩, (List.forall_mem_cons.mpr ⟨⟨s_iconst dL_law_982 (by decide +kernel), s_mo_push _ _⟩, (List.forall_mem_cons.mpr ⟨⟨s_iadd dL_law_983, s_mo_bin _ _⟩, (List.forall_mem_cons.mpr ⟨⟨s_ialdO dL_law_984, s_mo_ialdO _⟩, (List.forall_mem_cons.mpr ⟨⟨s_ldAn dL_law_985 rfl, s_mo_ldA _ _⟩, (List.forall_mem_cons.mpr ⟨⟨s_sS mk_291 mk_274 ok_274 (by decide +kernel) dL_law_986 w_895 w_896, s_h0 mk_291⟩, (List.forall_mem_cons.mpr ⟨⟨s_stI dL_law_989, s_mo_stI _ _⟩, (List.forall_mem_cons.mpr ⟨⟨s_ldAn dL_law_991 rfl, s_mo_ldA _ _⟩, (List.forall_mem_cons.mpr ⟨⟨s_ldAn dL_law_992 rfl, s_mo_ldA _ _⟩, (List.forall_mem_cons.mpr ⟨⟨s_ldI dL_law_993, s_mo_ldI _ _⟩, (List.forall_mem_cons.mpr ⟨⟨s_iconst dL_law_995 (by decide +kernel), s_mo_push _ _⟩, (List.forall_mem_cons.mpr ⟨⟨s_iadd dL_law_996, s_mo_bin _ _⟩, (List.forall_mem_cons.mpr ⟨⟨s_ialdO dL_law_997, s_mo_ialdO _⟩, (List.forall_mem_cons.mpr ⟨⟨s_ldAn dL_law_998 rfl, s_mo_ldA _ _⟩, (List.forall_mem_cons.mpr ⟨⟨s_ldI dL_law_999, s_mo_ldI _ _⟩, (List.forall_mem_cons.mpr ⟨⟨s_iconst dL_law_1001 (by decide +kernel), s_mo_push _ _⟩, (List.forall_mem_cons.mpr ⟨⟨s_iadd dL_law_1002, s_mo_bin _ _⟩, (List.forall_mem_cons.mpr ⟨⟨s_ialdO dL_law_1003, s_mo_ialdO _⟩, (List.forall_mem_cons.mpr ⟨⟨s_ldAn dL_law_1004 rfl, s_mo_ldA _ _⟩, (List.forall_mem_cons.mpr ⟨⟨s_ldI dL_law_1005, s_mo_ldI _ _⟩, (List.forall_mem_cons.mpr ⟨⟨s_iconst dL_law_1007 (by decide +kernel), s_mo_push _ _⟩, (List.forall_mem_cons.mpr ⟨⟨s_iadd dL_law_1008, s_mo_bin _ _⟩, (List.forall_mem_cons.mpr ⟨⟨s_ialdO dL_law_1009, s_mo_ialdO _⟩, (List.forall_mem_cons.mpr ⟨⟨s_sV mk_291 mk_209 ok_209 (by decide +kernel) dL_law_1010 w_1541 w_1542 w_1543 (Or.inr ⟨8, _, _, rfl, rfl⟩), s_h0 mk_291⟩, (List.forall_mem_cons.mpr ⟨⟨s_stI dL_law_1013, s_mo_stI _ _⟩, (List.forall_mem_cons.mpr ⟨⟨s_ldAn dL_law_1015 rfl, s_mo_ldA _ _⟩, (List.forall_mem_cons.mpr ⟨⟨s_sV mk_291 mk_148 ok_148 (by decide +kernel) dL_law_1016 w_1203 w_1204 w_1205 (Or.inr ⟨8, _, _, rfl, rfl⟩), s_h0 mk_291⟩, (List.forall_mem_cons.mpr ⟨⟨s_ldI dL_law_1019, s_mo_ldI _ _⟩, (List.forall_mem_cons.mpr ⟨⟨s_iceq dL_law_1021 (by decide), s_mo_iceq _ _⟩, (fun _ h => absurd h List.not_mem_nil)⟩)⟩)⟩)⟩)⟩)⟩)⟩)⟩)⟩)⟩)⟩)⟩)⟩)⟩)⟩)⟩)⟩)⟩)⟩)⟩)⟩)⟩)⟩)⟩)⟩)⟩)⟩)⟩)⟩)⟩)⟩)⟩)⟩)⟩)⟩)⟩)⟩)⟩)⟩)⟩)⟩)⟩)⟩)⟩)
set_option maxRecDepth 20000 in
theorem kb_291_16 : ∀ q ∈ tb_291_16, s_atx 291 yL_law cL_law q.1 q.2 := (List.forall_mem_cons.mpr ⟨⟨s_iconst dL_law_1024 (by decide +kernel), s_mo_push _ _⟩, (List.forall_mem_cons.mpr ⟨s_r2 mk_291 dL_law_1025, (List.forall_mem_cons.mpr ⟨⟨s_ldI dL_law_1026, s_mo_ldI _ _⟩, (List.forall_mem_cons.mpr ⟨⟨s_ifne dL_law_1028 (by decide), s_mo_ifne _ _⟩, (List.forall_mem_cons.mpr ⟨⟨s_ldAn dL_law_1031 rfl, s_mo_ldA _ _⟩, (List.forall_mem_cons.mpr ⟨⟨s_iconst dL_law_1032 (by decide +kernel), s_mo_push _ _⟩, (List.forall_mem_cons.mpr ⟨⟨s_lald dL_law_1033, s_mo_lald _⟩, (List.forall_mem_cons.mpr ⟨⟨s_ldI dL_law_1034, s_mo_ldI _ _⟩, (List.forall_mem_cons.mpr ⟨⟨s_i2l dL_law_1036, s_mo_i2l _⟩, (List.forall_mem_cons.mpr ⟨⟨s_lcmp dL_law_1037, s_mo_lcmp _⟩, (List.forall_mem_cons.mpr ⟨⟨s_ifeq dL_law_1038 (by decide), s_mo_ifeq _ _⟩, (List.forall_mem_cons.mpr ⟨⟨s_iconst dL_law_1041 (by decide +kernel), s_mo_push _ _⟩, (List.forall_mem_cons.mpr ⟨s_r2 mk_291 dL_law_1042, (List.forall_mem_cons.mpr ⟨⟨s_goto dL_law_1043 (by decide), s_mo_goto _⟩, (List.forall_mem_cons.mpr ⟨⟨s_ldAn dL_law_1046 rfl, s_mo_ldA _ _⟩, (List.forall_mem_cons.mpr ⟨⟨s_ldAn dL_law_1047 rfl, s_mo_ldA _ _⟩, (List.forall_mem_cons.mpr ⟨⟨s_ldI dL_law_1048, s_mo_ldI _ _⟩, (List.forall_mem_cons.mpr ⟨⟨s_iconst dL_law_1050 (by decide +kernel), s_mo_push _ _⟩, (List.forall_mem_cons.mpr ⟨⟨s_iadd dL_law_1051, s_mo_bin _ _⟩, (List.forall_mem_cons.mpr ⟨⟨s_ialdO dL_law_1052, s_mo_ialdO _⟩, (List.forall_mem_cons.mpr ⟨⟨s_ldAn dL_law_1053 rfl, s_mo_ldA _ _⟩, (List.forall_mem_cons.mpr ⟨⟨s_ldI dL_law_1054, s_mo_ldI _ _⟩, (List.forall_mem_cons.mpr ⟨⟨s_iconst dL_law_1056 (by decide +kernel), s_mo_push _ _⟩, (List.forall_mem_cons.mpr ⟨⟨s_iadd dL_law_1057, s_mo_bin _ _⟩, (List.forall_mem_cons.mpr ⟨⟨s_ialdO dL_law_1058, s_mo_ialdO _⟩, (List.forall_mem_cons.mpr ⟨⟨s_ldAn dL_law_1059 rfl, s_mo_ldA _ _⟩, (List.forall_mem_cons.mpr ⟨⟨s_sS mk_291 mk_275 ok_275 (by decide +kernel) dL_law_1060 w_905 w_906, s_h0 mk_291⟩, (List.forall_mem_cons.mpr ⟨⟨s_stI dL_law_1063, s_mo_stI _ _⟩, (List.forall_mem_cons.mpr ⟨⟨s_ldAn dL_law_1065 rfl, s_mo_ldA _ _⟩, (List.forall_mem_cons.mpr ⟨⟨s_ldAn dL_law_1066 rfl, s_mo_ldA _ _⟩, (List.forall_mem_cons.mpr ⟨⟨s_ldI dL_law_1067, s_mo_ldI _ _⟩, (List.forall_mem_cons.mpr ⟨⟨s_iconst dL_law_1069 (by decide +kernel), s_mo_push _ _⟩, (List.forall_mem_cons.mpr ⟨⟨s_iadd dL_law_1070, s_mo_bin _ _⟩, (List.forall_mem_cons.mpr ⟨⟨s_ialdO dL_law_1071, s_mo_ialdO _⟩, (List.forall_mem_cons.mpr ⟨⟨s_ldAn dL_law_1072 rfl, s_mo_ldA _ _⟩, (List.forall_mem_cons.mpr ⟨⟨s_ldI dL_law_1073, s_mo_ldI _ _⟩, (List.forall_mem_cons.mpr ⟨⟨s_iconst dL_law_1075 (by decide +kernel), s_mo_push _ _⟩, (List.forall_mem_cons.mpr ⟨⟨s_iadd dL_law_1076, s_mo_bin _ _⟩, (List.forall_mem_cons.mpr ⟨⟨s_ialdO dL_law_1077, s_mo_ialdO _⟩, (List.forall_mem_cons.mpr ⟨⟨s_sV mk_291 mk_214 ok_214 (by decide +kernel) dL_law_1078 w_1545 w_1546 w_1547 (Or.inr ⟨8, _, _, rfl, rfl⟩), s_h0 mk_291⟩, (List.forall_mem_cons.mpr ⟨⟨s_stI dL_law_1081, s_mo_stI _ _⟩, (List.forall_mem_cons.mpr ⟨⟨s_ldAn dL_law_1083 rfl, s_mo_ldA _ _⟩, (List.forall_mem_cons.mpr ⟨⟨s_sV mk_291 mk_148 ok_148 (by decide +kernel) dL_law_1084 w_1203 w_1204 w_1205 (Or.inr ⟨8, _, _, rfl, rfl⟩), s_h0 mk_291⟩, (List.forall_mem_cons.mpr ⟨⟨s_ldI dL_law_1087, s_mo_ldI _ _⟩, (fun _ h => absurd h List.not_mem_nil)⟩)⟩)⟩)⟩)⟩)⟩)⟩)⟩)⟩)⟩)⟩)⟩)⟩)⟩)⟩)⟩)⟩)⟩)⟩)⟩)⟩)⟩)⟩)⟩)⟩)⟩)⟩)⟩)⟩)⟩)⟩)⟩)⟩)⟩)⟩)⟩)⟩)⟩)⟩)⟩)⟩)⟩)⟩)⟩)
set_option maxRecDepth 20000 in
theorem kb_291_17 : ∀ q ∈ tb_291_17, s_atx 291 yL_law cL_law q.1 q.2 := (List.forall_mem_cons.mpr ⟨⟨s_iceq dL_law_1089 (by decide), s_mo_iceq _ _⟩, (List.forall_mem_cons.mpr ⟨⟨s_iconst dL_law_1092 (by decide +kernel), s_mo_push _ _⟩, (List.forall_mem_cons.mpr ⟨s_r2 mk_291 dL_law_1093, (List.forall_mem_cons.mpr ⟨⟨s_ldI dL_law_1094, s_mo_ldI _ _⟩, (List.forall_mem_cons.mpr ⟨⟨s_ifne dL_law_1096 (by decide), s_mo_ifne _ _⟩, (List.forall_mem_cons.mpr ⟨⟨s_ldAn dL_law_1099 rfl, s_mo_ldA _ _⟩, (List.forall_mem_cons.mpr ⟨⟨s_iconst dL_law_1100 (by decide +kernel), s_mo_push _ _⟩, (List.forall_mem_cons.mpr ⟨⟨s_lald dL_law_1101, s_mo_lald _⟩, (List.forall_mem_cons.mpr ⟨⟨s_ldI dL_law_1102, s_mo_ldI _ _⟩, (List.forall_mem_cons.mpr ⟨⟨s_ifeq dL_law_1104 (by decide), s_mo_ifeq _ _⟩, (List.forall_mem_cons.mpr ⟨⟨s_lconst dL_law_1107 (by decide +kernel), s_mo_push _ _⟩, (List.forall_mem_cons.mpr ⟨⟨s_goto dL_law_1108 (by decide), s_mo_goto _⟩, (List.forall_mem_cons.mpr ⟨⟨s_lconst dL_law_1111 (by decide +kernel), s_mo_push _ _⟩, (List.forall_mem_cons.mpr ⟨⟨s_lcmp dL_law_1112, s_mo_lcmp _⟩, (List.forall_mem_cons.mpr ⟨⟨s_ifeq dL_law_1113 (by decide), s_mo_ifeq _ _⟩, (List.forall_mem_cons.mpr ⟨⟨s_iconst dL_law_1116 (by decide +kernel), s_mo_push _ _⟩, (List.forall_mem_cons.mpr ⟨s_r2 mk_291 dL_law_1117, (List.forall_mem_cons.mpr ⟨⟨s_goto dL_law_1118 (by decide), s_mo_goto _⟩, (List.forall_mem_cons.mpr ⟨⟨s_ldAn dL_law_1121 rfl, s_mo_ldA _ _⟩, (List.forall_mem_cons.mpr ⟨⟨s_ldAn dL_law_1122 rfl, s_mo_ldA _ _⟩, (List.forall_mem_cons.mpr ⟨⟨s_ldI dL_law_1123, s_mo_ldI _ _⟩, (List.forall_mem_cons.mpr ⟨⟨s_iconst dL_law_1125 (by decide +kernel), s_mo_push _ _⟩, (List.forall_mem_cons.mpr ⟨⟨s_iadd dL_law_1126, s_mo_bin _ _⟩, (List.forall_mem_cons.mpr ⟨⟨s_ialdO dL_law_1127, s_mo_ialdO _⟩, (List.forall_mem_cons.mpr ⟨⟨s_ldAn dL_law_1128 rfl, s_mo_ldA _ _⟩, (List.forall_mem_cons.mpr ⟨⟨s_ldI dL_law_1129, s_mo_ldI _ _⟩, (List.forall_mem_cons.mpr ⟨⟨s_iconst dL_law_1131 (by decide +kernel), s_mo_push _ _⟩, (List.forall_mem_cons.mpr ⟨⟨s_iadd dL_law_1132, s_mo_bin _ _⟩, (List.forall_mem_cons.mpr ⟨⟨s_ialdO dL_law_1133, s_mo_ialdO _⟩, (List.forall_mem_cons.mpr ⟨⟨s_ldAn dL_law_1134 rfl, s_mo_ldA _ _⟩, (List.forall_mem_cons.mpr ⟨⟨s_sS mk_291 mk_276 ok_276 (by decide +kernel) dL_law_1135 w_933 w_934, s_h0 mk_291⟩, (List.forall_mem_cons.mpr ⟨⟨s_stI dL_law_1138, s_mo_stI _ _⟩, (List.forall_mem_cons.mpr ⟨⟨s_ldAn dL_law_1140 rfl, s_mo_ldA _ _⟩, (List.forall_mem_cons.mpr ⟨⟨s_ldAn dL_law_1141 rfl, s_mo_ldA _ _⟩, (List.forall_mem_cons.mpr ⟨⟨s_ldI dL_law_1142, s_mo_ldI _ _⟩, (List.forall_mem_cons.mpr ⟨⟨s_iconst dL_law_1144 (by decide +kernel), s_mo_push _ _⟩, (List.forall_mem_cons.mpr ⟨⟨s_iadd dL_law_1145, s_mo_bin _ _⟩, (List.forall_mem_cons.mpr ⟨⟨s_ialdO dL_law_1146, s_mo_ialdO _⟩, (List.forall_mem_cons.mpr ⟨⟨s_ldAn dL_law_1147 rfl, s_mo_ldA _ _⟩, (List.forall_mem_cons.mpr ⟨⟨s_ldI dL_law_1148, s_mo_ldI _ _⟩, (List.forall_mem_cons.mpr ⟨⟨s_iconst dL_law_1150 (by decide +kernel), s_mo_push _ _⟩, (List.forall_mem_cons.mpr ⟨⟨s_iadd dL_law_1151, s_mo_bin _ _⟩, (fun _ h => absurd h List.not_mem_nil)⟩)⟩)⟩)⟩)⟩)⟩)⟩)⟩)⟩)⟩)⟩)⟩)⟩)⟩)⟩)⟩)⟩)⟩)⟩)⟩)⟩)⟩)⟩)⟩)⟩)⟩)⟩)⟩)⟩)⟩)⟩)⟩)⟩)⟩)⟩)⟩)⟩)⟩)⟩)⟩)⟩)⟩)
set_option maxRecDepth 20000 in
theorem kb_291_18 : ∀ q ∈ tb_291_18, s_atx 291 yL_law cL_law q.1 q.2 := (List.forall_mem_cons.mpr ⟨⟨s_ialdO dL_law_1152, s_mo_ialdO _⟩, (List.forall_mem_cons.mpr ⟨⟨s_sV mk_291 mk_215 ok_215 (by decide +kernel) dL_law_1153 w_1565 w_1566 w_1567 (Or.inr ⟨8, _, _, rfl, rfl⟩), s_h0 mk_291⟩, (List.forall_mem_cons.mpr ⟨⟨s_stI dL_law_1156, s_mo_stI _ _⟩, (List.forall_mem_cons.mpr ⟨⟨s_ldAn dL_law_1158 rfl, s_mo_ldA _ _⟩, (List.forall_mem_cons.mpr ⟨⟨s_sV mk_291 mk_148 ok_148 (by decide +kernel) dL_law_1159 w_1203 w_1204 w_1205 (Or.inr ⟨8, _, _, rfl, rfl⟩), s_h0 mk_291⟩, (List.forall_mem_cons.mpr ⟨⟨s_ldI dL_law_1162, s_mo_ldI _ _⟩, (List.forall_mem_cons.mpr ⟨⟨s_iceq dL_law_1164 (by decide), s_mo_iceq _ _⟩, (List.forall_mem_cons.mpr ⟨⟨s_iconst dL_law_1167 (by decide +kernel), s_mo_push _ _⟩, (List.forall_mem_cons.mpr ⟨s_r2 mk_291 dL_law_1168, (List.forall_mem_cons.mpr ⟨⟨s_ldI dL_law_1169, s_mo_ldI _ _⟩, (List.forall_mem_cons.mpr ⟨⟨s_ifne dL_law_1171 (by decide), s_mo_ifne _ _⟩, (List.forall_mem_cons.mpr ⟨⟨s_ldAn dL_law_1174 rfl, s_mo_ldA _ _⟩, (List.forall_mem_cons.mpr ⟨⟨s_iconst dL_law_1175 (by decide +kernel), s_mo_push _ _⟩, (List.forall_mem_cons.mpr ⟨⟨s_lald dL_law_1176, s_mo_lald _⟩, (List.forall_mem_cons.mpr ⟨⟨s_ldI dL_law_1177, s_mo_ldI _ _⟩, (List.forall_mem_cons.mpr ⟨⟨s_i2l dL_law_1179, s_mo_i2l _⟩, (List.forall_mem_cons.mpr ⟨⟨s_lcmp dL_law_1180, s_mo_lcmp _⟩, (List.forall_mem_cons.mpr ⟨⟨s_ifeq dL_law_1181 (by decide), s_mo_ifeq _ _⟩, (List.forall_mem_cons.mpr ⟨⟨s_iconst dL_law_1184 (by decide +kernel), s_mo_push _ _⟩, (List.forall_mem_cons.mpr ⟨s_r2 mk_291 dL_law_1185, (List.forall_mem_cons.mpr ⟨⟨s_goto dL_law_1186 (by decide), s_mo_goto _⟩, (List.forall_mem_cons.mpr ⟨⟨s_ldAn dL_law_1189 rfl, s_mo_ldA _ _⟩, (List.forall_mem_cons.mpr ⟨⟨s_ldAn dL_law_1190 rfl, s_mo_ldA _ _⟩, (List.forall_mem_cons.mpr ⟨⟨s_sS mk_291 mk_277 ok_277 (by decide +kernel) dL_law_1191 w_945 w_946, s_h0 mk_291⟩, (List.forall_mem_cons.mpr ⟨⟨s_stI dL_law_1194, s_mo_stI _ _⟩, (List.forall_mem_cons.mpr ⟨⟨s_ldAn dL_law_1196 rfl, s_mo_ldA _ _⟩, (List.forall_mem_cons.mpr ⟨⟨s_sV mk_291 mk_216 ok_216 (by decide +kernel) dL_law_1197 w_1569 w_1570 w_1571 (Or.inr ⟨8, _, _, rfl, rfl⟩), s_h0 mk_291⟩, (List.forall_mem_cons.mpr ⟨⟨s_stI dL_law_1200, s_mo_stI _ _⟩, (List.forall_mem_cons.mpr ⟨⟨s_ldAn dL_law_1202 rfl, s_mo_ldA _ _⟩, (List.forall_mem_cons.mpr ⟨⟨s_sV mk_291 mk_148 ok_148 (by decide +kernel) dL_law_1203 w_1203 w_1204 w_1205 (Or.inr ⟨8, _, _, rfl, rfl⟩), s_h0 mk_291⟩, (List.forall_mem_cons.mpr ⟨⟨s_ldI dL_law_1206, s_mo_ldI _ _⟩, (List.forall_mem_cons.mpr ⟨⟨s_iceq dL_law_1208 (by decide), s_mo_iceq _ _⟩, (List.forall_mem_cons.mpr ⟨⟨s_iconst dL_law_1211 (by decide +kernel), s_mo_push _ _⟩, (List.forall_mem_cons.mpr ⟨s_r2 mk_291 dL_law_1212, (List.forall_mem_cons.mpr ⟨⟨s_ldI dL_law_1213, s_mo_ldI _ _⟩, (List.forall_mem_cons.mpr ⟨⟨s_ifne dL_law_1215 (by decide), s_mo_ifne _ _⟩, (fun _ h => absurd h List.not_mem_nil)⟩)⟩)⟩)⟩)⟩)⟩)⟩)⟩)⟩)⟩)⟩)⟩)⟩)⟩)⟩)⟩)⟩)⟩)⟩)⟩)⟩)⟩)⟩)⟩)⟩)⟩)⟩)⟩)⟩)⟩)⟩)⟩)⟩)⟩)⟩)⟩)
set_option maxRecDepth 20000 in
theorem kb_291_19 : ∀ q ∈ tb_291_19, s_atx 291 yL_law cL_law q.1 q.2 := (List.forall_mem_cons.mpr ⟨⟨s_ldAn dL_law_1218 rfl, s_mo_ldA _ _⟩, (List.forall_mem_cons.mpr ⟨⟨s_iconst dL_law_1219 (by decide +kernel), s_mo_push _ _⟩, (List.forall_mem_cons.mpr ⟨⟨s_lald dL_law_1220, s_mo_lald _⟩, (List.forall_mem_cons.mpr ⟨⟨s_ldI dL_law_1221, s_mo_ldI _ _⟩, (List.forall_mem_cons.mpr ⟨⟨s_i2l dL_law_1223, s_mo_i2l _⟩, (List.forall_mem_cons.mpr ⟨⟨s_lcmp dL_law_1224, s_mo_lcmp _⟩, (List.forall_mem_cons.mpr ⟨⟨s_ifeq dL_law_1225 (by decide), s_mo_ifeq _ _⟩, (List.forall_mem_cons.mpr ⟨⟨s_iconst dL_law_1228 (by decide +kernel), s_mo_push _ _⟩, (List.forall_mem_cons.mpr ⟨s_r2 mk_291 dL_law_1229, (List.forall_mem_cons.mpr ⟨⟨s_goto dL_law_1230 (by decide), s_mo_goto _⟩, (List.forall_mem_cons.mpr ⟨⟨s_ldAn dL_law_1233 rfl, s_mo_ldA _ _⟩, (List.forall_mem_cons.mpr ⟨⟨s_ldAn dL_law_1234 rfl, s_mo_ldA _ _⟩, (List.forall_mem_cons.mpr ⟨⟨s_ldI dL_law_1235, s_mo_ldI _ _⟩, (List.forall_mem_cons.mpr ⟨⟨s_iconst dL_law_1237 (by decide +kernel), s_mo_push _ _⟩, (List.forall_mem_cons.mpr ⟨⟨s_iadd dL_law_1238, s_mo_bin _ _⟩, (List.forall_mem_cons.mpr ⟨⟨s_ialdO dL_law_1239, s_mo_ialdO _⟩, (List.forall_mem_cons.mpr ⟨⟨s_ldAn dL_law_1240 rfl, s_mo_ldA _ _⟩, (List.forall_mem_cons.mpr ⟨⟨s_ldI dL_law_1241, s_mo_ldI _ _⟩, (List.forall_mem_cons.mpr ⟨⟨s_iconst dL_law_1243 (by decide +kernel), s_mo_push _ _⟩, (List.forall_mem_cons.mpr ⟨⟨s_iadd dL_law_1244, s_mo_bin _ _⟩, (List.forall_mem_cons.mpr ⟨⟨s_ialdO dL_law_1245, s_mo_ialdO _⟩, (List.forall_mem_cons.mpr ⟨⟨s_ldAn dL_law_1246 rfl, s_mo_ldA _ _⟩, (List.forall_mem_cons.mpr ⟨⟨s_ldI dL_law_1247, s_mo_ldI _ _⟩, (List.forall_mem_cons.mpr ⟨⟨s_iconst dL_law_1249 (by decide +kernel), s_mo_push _ _⟩, (List.forall_mem_cons.mpr ⟨⟨s_iadd dL_law_1250, s_mo_bin _ _⟩, (List.forall_mem_cons.mpr ⟨⟨s_ialdO dL_law_1251, s_mo_ialdO _⟩, (List.forall_mem_cons.mpr ⟨⟨s_ldAn dL_law_1252 rfl, s_mo_ldA _ _⟩, (List.forall_mem_cons.mpr ⟨⟨s_sS mk_291 mk_278 ok_278 (by decide +kernel) dL_law_1253 w_952 w_953, s_h0 mk_291⟩, (List.forall_mem_cons.mpr ⟨⟨s_stI dL_law_1256, s_mo_stI _ _⟩, (List.forall_mem_cons.mpr ⟨⟨s_ldAn dL_law_1258 rfl, s_mo_ldA _ _⟩, (List.forall_mem_cons.mpr ⟨⟨s_ldAn dL_law_1259 rfl, s_mo_ldA _ _⟩, (List.forall_mem_cons.mpr ⟨⟨s_ldI dL_law_1260, s_mo_ldI _ _⟩, (List.forall_mem_cons.mpr ⟨⟨s_iconst dL_law_1262 (by decide +kernel), s_mo_push _ _⟩, (List.forall_mem_cons.mpr ⟨⟨s_iadd dL_law_1263, s_mo_bin _ _⟩, (List.forall_mem_cons.mpr ⟨⟨s_ialdO dL_law_1264, s_mo_ialdO _⟩, (List.forall_mem_cons.mpr ⟨⟨s_ldAn dL_law_1265 rfl, s_mo_ldA _ _⟩, (List.forall_mem_cons.mpr ⟨⟨s_ldI dL_law_1266, s_mo_ldI _ _⟩, (List.forall_mem_cons.mpr ⟨⟨s_iconst dL_law_1268 (by decide +kernel), s_mo_push _ _⟩, (List.forall_mem_cons.mpr ⟨⟨s_iadd dL_law_1269, s_mo_bin _ _⟩, (List.forall_mem_cons.mpr ⟨⟨s_ialdO dL_law_1270, s_mo_ialdO _⟩, (List.forall_mem_cons.mpr ⟨⟨s_ldAn dL_law_1271 rfl, s_mo_ldA _ _⟩, (List.forall_mem_cons.mpr ⟨⟨s_ldI dL_law_1272, s_mo_ldI _ _⟩, (List.forall_mem_cons.mpr ⟨⟨s_iconst dL_law_1274 (by decide +kernel), s_mo_push _ _⟩, (List.forall_mem_cons.mpr ⟨⟨s_iadd dL_law_1275, s_mo_bin _ _⟩, (List.forall_mem_cons.mpr ⟨⟨s_ialdO dL_law_1276, s_mo_ialdO _⟩, (List.forall_mem_cons.mpr ⟨⟨s_sV mk_291 mk_218 ok_218 (by decide +kernel) dL_law_1277 w_1573 w_1574 w_1575 (Or.inr ⟨8, _, _, rfl, rfl⟩), s_h0 mk_291⟩, (fun _ h => absurd h List.not_mem_nil)⟩)⟩)⟩)⟩)⟩)⟩)⟩)⟩)⟩)⟩)⟩)⟩)⟩)⟩)⟩)⟩)⟩)⟩)⟩)⟩)⟩)⟩)⟩)⟩)⟩)⟩)⟩)⟩)⟩)⟩)⟩)⟩)⟩)⟩)⟩)⟩)⟩)⟩)⟩)⟩)⟩)⟩)⟩)⟩)⟩)⟩)
set_option maxRecDepth 20000 in
theorem kb_291_20 : ∀ q ∈ tb_291_20, s_atx 291 yL_law cL_law q.1 q.2 := (List.forall_mem_cons.mpr ⟨⟨s_stI dL_law_1280, s_mo_stI _ _⟩, (List.forall_mem_cons.mpr ⟨⟨s_ldAn dL_law_1282 rfl, s_mo_ldA _ _⟩, (List.forall_mem_cons.mpr ⟨⟨s_sV mk_291 mk_148 ok_148 (by decide +kernel) dL_law_1283 w_1203 w_1204 w_1205 (Or.inr ⟨8, _, _, rfl, rfl⟩), s_h0 mk_291⟩, (List.forall_mem_cons.mpr ⟨⟨s_ldI dL_law_1286, s_mo_ldI _ _⟩, (List.forall_mem_cons.mpr ⟨⟨s_iceq dL_law_1288 (by decide), s_mo_iceq _ _⟩, (List.forall_mem_cons.mpr ⟨⟨s_iconst dL_law_1291 (by decide +kernel), s_mo_push _ _⟩, (List.forall_mem_cons.mpr ⟨s_r2 mk_291 dL_law_1292, (List.forall_mem_cons.mpr ⟨⟨s_ldI dL_law_1293, s_mo_ldI _ _⟩, (List.forall_mem_cons.mpr ⟨⟨s_ifne dL_law_1295 (by decide), s_mo_ifne _ _⟩, (List.forall_mem_cons.mpr ⟨⟨s_ldAn dL_law_1298 rfl, s_mo_ldA _ _⟩, (List.forall_mem_cons.mpr ⟨⟨s_iconst dL_law_1299 (by decide +kernel), s_mo_push _ _⟩, (List.forall_mem_cons.mpr ⟨⟨s_lald dL_law_1300, s_mo_lald _⟩, (List.forall_mem_cons.mpr ⟨⟨s_ldI dL_law_1301, s_mo_ldI _ _⟩, (List.forall_mem_cons.mpr ⟨⟨s_i2l dL_law_1303, s_mo_i2l _⟩, (List.forall_mem_cons.mpr ⟨⟨s_lcmp dL_law_1304, s_mo_lcmp _⟩, (List.forall_mem_cons.mpr ⟨⟨s_ifeq dL_law_1305 (by decide), s_mo_ifeq _ _⟩, (List.forall_mem_cons.mpr ⟨⟨s_iconst dL_law_1308 (by decide +kernel), s_mo_push _ _⟩, (List.forall_mem_cons.mpr ⟨s_r2 mk_291 dL_law_1309, (List.forall_mem_cons.mpr ⟨⟨s_goto dL_law_1310 (by decide), s_mo_goto _⟩, (List.forall_mem_cons.mpr ⟨⟨s_ldAn dL_law_1313 rfl, s_mo_ldA _ _⟩, (List.forall_mem_cons.mpr ⟨⟨s_ldAn dL_law_1314 rfl, s_mo_ldA _ _⟩, (List.forall_mem_cons.mpr ⟨⟨s_ldI dL_law_1315, s_mo_ldI _ _⟩, (List.forall_mem_cons.mpr ⟨⟨s_iconst dL_law_1317 (by decide +kernel), s_mo_push _ _⟩, (List.forall_mem_cons.mpr ⟨⟨s_iadd dL_law_1318, s_mo_bin _ _⟩, (List.forall_mem_cons.mpr ⟨⟨s_ialdO dL_law_1319, s_mo_ialdO _⟩, (List.forall_mem_cons.mpr ⟨⟨s_ldAn dL_law_1320 rfl, s_mo_ldA _ _⟩, (List.forall_mem_cons.mpr ⟨⟨s_ldI dL_law_1321, s_mo_ldI _ _⟩, (List.forall_mem_cons.mpr ⟨⟨s_iconst dL_law_1323 (by decide +kernel), s_mo_push _ _⟩, (List.forall_mem_cons.mpr ⟨⟨s_iadd dL_law_1324, s_mo_bin _ _⟩, (List.forall_mem_cons.mpr ⟨⟨s_ialdO dL_law_1325, s_mo_ialdO _⟩, (List.forall_mem_cons.mpr ⟨⟨s_ldAn dL_law_1326 rfl, s_mo_ldA _ _⟩, (List.forall_mem_cons.mpr ⟨⟨s_sS mk_291 mk_279 ok_279 (by decide +kernel) dL_law_1327 w_963 w_964, s_h0 mk_291⟩, (List.forall_mem_cons.mpr ⟨⟨s_stI dL_law_1330, s_mo_stI _ _⟩, (List.forall_mem_cons.mpr ⟨⟨s_ldAn dL_law_1332 rfl, s_mo_ldA _ _⟩, (List.forall_mem_cons.mpr ⟨⟨s_ldAn dL_law_1333 rfl, s_mo_ldA _ _⟩, (List.forall_mem_cons.mpr ⟨⟨s_ldI dL_law_1334, s_mo_ldI _ _⟩, (List.forall_mem_cons.mpr ⟨⟨s_iconst dL_law_1336 (by decide +kernel), s_mo_push _ _⟩, (List.forall_mem_cons.mpr ⟨⟨s_iadd dL_law_1337, s_mo_bin _ _⟩, (List.forall_mem_cons.mpr ⟨⟨s_ialdO dL_law_1338, s_mo_ialdO _⟩, (List.forall_mem_cons.mpr ⟨⟨s_ldAn dL_law_1339 rfl, s_mo_ldA _ _⟩, (List.forall_mem_cons.mpr ⟨⟨s_ldI dL_law_1340, s_mo_ldI _ _⟩, (List.forall_mem_cons.mpr ⟨⟨s_iconst dL_law_1342 (by decide +kernel), s_mo_push _ _⟩, (List.forall_mem_cons.mpr ⟨⟨s_iadd dL_law_1343, s_mo_bin _ _⟩, (fun _ h => absurd h List.not_mem_nil)⟩)⟩)⟩)⟩)⟩)⟩)⟩)⟩)⟩)⟩)⟩)⟩)⟩)⟩)⟩)⟩)⟩)⟩)⟩)⟩)⟩)⟩)⟩)⟩)⟩)⟩)⟩)⟩)⟩)⟩)⟩)⟩)⟩)⟩)⟩)⟩)⟩)⟩)⟩)⟩)⟩)⟩)⟩)
set_option maxRecDepth 20000 in
theorem kb_291_21 : ∀ q ∈ tb_291_21, s_atx 291 yL_law cL_law q.1 q.2 := (List.forall_mem_cons.mpr ⟨⟨s_ialdO dL_law_1344, s_mo_ialdO _⟩, (List.forall_mem_cons.mpr ⟨⟨s_sV mk_291 mk_221 ok_221 (by decide +kernel) dL_law_1345 w_1581 w_1582 w_1583 (Or.inr ⟨8, _, _, rfl, rfl⟩), s_h0 mk_291⟩, (List.forall_mem_cons.mpr ⟨⟨s_stI dL_law_1348, s_mo_stI _ _⟩, (List.forall_mem_cons.mpr ⟨⟨s_ldAn dL_law_1350 rfl, s_mo_ldA _ _⟩, (List.forall_mem_cons.mpr ⟨⟨s_sV mk_291 mk_148 ok_148 (by decide +kernel) dL_law_1351 w_1203 w_1204 w_1205 (Or.inr ⟨8, _, _, rfl, rfl⟩), s_h0 mk_291⟩, (List.forall_mem_cons.mpr ⟨⟨s_ldI dL_law_1354, s_mo_ldI _ _⟩, (List.forall_mem_cons.mpr ⟨⟨s_iceq dL_law_1356 (by decide), s_mo_iceq _ _⟩, (List.forall_mem_cons.mpr ⟨⟨s_iconst dL_law_1359 (by decide +kernel), s_mo_push _ _⟩, (List.forall_mem_cons.mpr ⟨s_r2 mk_291 dL_law_1360, (List.forall_mem_cons.mpr ⟨⟨s_ldI dL_law_1361, s_mo_ldI _ _⟩, (List.forall_mem_cons.mpr ⟨⟨s_ifne dL_law_1363 (by decide), s_mo_ifne _ _⟩, (List.forall_mem_cons.mpr ⟨⟨s_ldAn dL_law_1366 rfl, s_mo_ldA _ _⟩, (List.forall_mem_cons.mpr ⟨⟨s_iconst dL_law_1367 (by decide +kernel), s_mo_push _ _⟩, (List.forall_mem_cons.mpr ⟨⟨s_lald dL_law_1368, s_mo_lald _⟩, (List.forall_mem_cons.mpr ⟨⟨s_ldI dL_law_1369, s_mo_ldI _ _⟩, (List.forall_mem_cons.mpr ⟨⟨s_i2l dL_law_1371, s_mo_i2l _⟩, (List.forall_mem_cons.mpr ⟨⟨s_lcmp dL_law_1372, s_mo_lcmp _⟩, (List.forall_mem_cons.mpr ⟨⟨s_ifeq dL_law_1373 (by decide), s_mo_ifeq _ _⟩, (List.forall_mem_cons.mpr ⟨⟨s_iconst dL_law_1376 (by decide +kernel), s_mo_push _ _⟩, (List.forall_mem_cons.mpr ⟨s_r2 mk_291 dL_law_1377, (List.forall_mem_cons.mpr ⟨⟨s_goto dL_law_1378 (by decide), s_mo_goto _⟩, (List.forall_mem_cons.mpr ⟨⟨s_ldAn dL_law_1381 rfl, s_mo_ldA _ _⟩, (List.forall_mem_cons.mpr ⟨⟨s_ldAn dL_law_1382 rfl, s_mo_ldA _ _⟩, (List.forall_mem_cons.mpr ⟨⟨s_ldI dL_law_1383, s_mo_ldI _ _⟩, (List.forall_mem_cons.mpr ⟨⟨s_iconst dL_law_1385 (by decide +kernel), s_mo_push _ _⟩, (List.forall_mem_cons.mpr ⟨⟨s_iadd dL_law_1386, s_mo_bin _ _⟩, (List.forall_mem_cons.mpr ⟨⟨s_ialdO dL_law_1387, s_mo_ialdO _⟩, (List.forall_mem_cons.mpr ⟨⟨s_ldAn dL_law_1388 rfl, s_mo_ldA _ _⟩, (List.forall_mem_cons.mpr ⟨⟨s_ldI dL_law_1389, s_mo_ldI _ _⟩, (List.forall_mem_cons.mpr ⟨⟨s_iconst dL_law_1391 (by decide +kernel), s_mo_push _ _⟩, (List.forall_mem_cons.mpr ⟨⟨s_iadd dL_law_1392, s_mo_bin _ _⟩, (List.forall_mem_cons.mpr ⟨⟨s_ialdO dL_law_1393, s_mo_ialdO _⟩, (List.forall_mem_cons.mpr ⟨⟨s_ldAn dL_law_1394 rfl, s_mo_ldA _ _⟩, (List.forall_mem_cons.mpr ⟨⟨s_sS mk_291 mk_280 ok_280 (by decide +kernel) dL_law_1395 w_1007 w_1008, s_h0 mk_291⟩, (List.forall_mem_cons.mpr ⟨⟨s_stI dL_law_1398, s_mo_stI _ _⟩, (List.forall_mem_cons.mpr ⟨⟨s_ldAn dL_law_1400 rfl, s_mo_ldA _ _⟩, (List.forall_mem_cons.mpr ⟨⟨s_ldAn dL_law_1401 rfl, s_mo_ldA _ _⟩, (List.forall_mem_cons.mpr ⟨⟨s_ldI dL_law_1402, s_mo_ldI _ _⟩, (List.forall_mem_cons.mpr ⟨⟨s_iconst dL_law_1404 (by decide +kernel), s_mo_push _ _⟩, (List.forall_mem_cons.mpr ⟨⟨s_iadd dL_law_1405, s_mo_bin _ _⟩, (List.forall_mem_cons.mpr ⟨⟨s_ialdO dL_law_1406, s_mo_ialdO _⟩, (List.forall_mem_cons.mpr ⟨⟨s_ldAn dL_law_1407 rfl, s_mo_ldA _ _⟩, (fun _ h => absurd h List.not_mem_nil)⟩)⟩)⟩)⟩)⟩)⟩)⟩)⟩)⟩)⟩)⟩)⟩)⟩)⟩)⟩)⟩)⟩)⟩)⟩)⟩)⟩)⟩)⟩)⟩)⟩)⟩)⟩)⟩)⟩)⟩)⟩)⟩)⟩)⟩)⟩)⟩)⟩)⟩)⟩)⟩)⟩)⟩)
set_option maxRecDepth 20000 in
theorem kb_291_22 : ∀ q ∈ tb_291_22, s_atx 291 yL_law cL_law q.1 q.2 := (List.forall_mem_cons.mpr ⟨⟨s_ldI dL_law_1408, s_mo_ldI _ _⟩, (List.forall_mem_cons.mpr ⟨⟨s_iconst dL_law_1410 (by decide +kernel), s_mo_push _ _⟩, (List.forall_mem_cons.mpr ⟨⟨s_iadd dL_law_1411, s_mo_bin _ _⟩, (List.forall_mem_cons.mpr ⟨⟨s_ialdO dL_law_1412, s_mo_ialdO _⟩, (List.forall_mem_cons.mpr ⟨⟨s_sV mk_291 mk_222 ok_222 (by decide +kernel) dL_law_1413 w_1596 w_1597 w_1598 (Or.inr ⟨8, _, _, rfl, rfl⟩), s_h0 mk_291⟩, (List.forall_mem_cons.mpr ⟨⟨s_stI dL_law_1416, s_mo_stI _ _⟩, (List.forall_mem_cons.mpr ⟨⟨s_ldAn dL_law_1418 rfl, s_mo_ldA _ _⟩, (List.forall_mem_cons.mpr ⟨⟨s_sV mk_291 mk_148 ok_148 (by decide +kernel) dL_law_1419 w_1203 w_1204 w_1205 (Or.inr ⟨8, _, _, rfl, rfl⟩), s_h0 mk_291⟩, (List.forall_mem_cons.mpr ⟨⟨s_ldI dL_law_1422, s_mo_ldI _ _⟩, (List.forall_mem_cons.mpr ⟨⟨s_iceq dL_law_1424 (by decide), s_mo_iceq _ _⟩, (List.forall_mem_cons.mpr ⟨⟨s_iconst dL_law_1427 (by decide +kernel), s_mo_push _ _⟩, (List.forall_mem_cons.mpr ⟨s_r2 mk_291 dL_law_1428, (List.forall_mem_cons.mpr ⟨⟨s_ldI dL_law_1429, s_mo_ldI _ _⟩, (List.forall_mem_cons.mpr ⟨⟨s_ifne dL_law_1431 (by decide), s_mo_ifne _ _⟩, (List.forall_mem_cons.mpr ⟨⟨s_ldAn dL_law_1434 rfl, s_mo_ldA _ _⟩, (List.forall_mem_cons.mpr ⟨⟨s_iconst dL_law_1435 (by decide +kernel), s_mo_push _ _⟩, (List.forall_mem_cons.mpr ⟨⟨s_lald dL_law_1436, s_mo_lald _⟩, (List.forall_mem_cons.mpr ⟨⟨s_ldI dL_law_1437, s_mo_ldI _ _⟩, (List.forall_mem_cons.mpr ⟨⟨s_i2l dL_law_1439, s_mo_i2l _⟩, (List.forall_mem_cons.mpr ⟨⟨s_lcmp dL_law_1440, s_mo_lcmp _⟩, (List.forall_mem_cons.mpr ⟨⟨s_ifeq dL_law_1441 (by decide), s_mo_ifeq _ _⟩, (List.forall_mem_cons.mpr ⟨⟨s_iconst dL_law_1444 (by decide +kernel), s_mo_push _ _⟩, (List.forall_mem_cons.mpr ⟨s_r2 mk_291 dL_law_1445, (List.forall_mem_cons.mpr ⟨⟨s_goto dL_law_1446 (by decide), s_mo_goto _⟩, (List.forall_mem_cons.mpr ⟨⟨s_ldAn dL_law_1449 rfl, s_mo_ldA _ _⟩, (List.forall_mem_cons.mpr ⟨⟨s_ldAn dL_law_1450 rfl, s_mo_ldA _ _⟩, (List.forall_mem_cons.mpr ⟨⟨s_ldI dL_law_1451, s_mo_ldI _ _⟩, (List.forall_mem_cons.mpr ⟨⟨s_iconst dL_law_1453 (by decide +kernel), s_mo_push _ _⟩, (List.forall_mem_cons.mpr ⟨⟨s_iadd dL_law_1454, s_mo_bin _ _⟩, (List.forall_mem_cons.mpr ⟨⟨s_ialdO dL_law_1455, s_mo_ialdO _⟩, (List.forall_mem_cons.mpr ⟨⟨s_ldAn dL_law_1456 rfl, s_mo_ldA _ _⟩, (List.forall_mem_cons.mpr ⟨⟨s_ldI dL_law_1457, s_mo_ldI _ _⟩, (List.forall_mem_cons.mpr ⟨⟨s_iconst dL_law_1459 (by decide +kernel), s_mo_push _ _⟩, (List.forall_mem_cons.mpr ⟨⟨s_iadd dL_law_1460, s_mo_bin _ _⟩, (List.forall_mem_cons.mpr ⟨⟨s_ialdO dL_law_1461, s_mo_ialdO _⟩, (List.forall_mem_cons.mpr ⟨⟨s_ldAn dL_law_1462 rfl, s_mo_ldA _ _⟩, (List.forall_mem_cons.mpr ⟨⟨s_ldI dL_law_1463, s_mo_ldI _ _⟩, (List.forall_mem_cons.mpr ⟨⟨s_iconst dL_law_1465 (by decide +kernel), s_mo_push _ _⟩, (List.forall_mem_cons.mpr ⟨⟨s_iadd dL_law_1466, s_mo_bin _ _⟩, (List.forall_mem_cons.mpr ⟨⟨s_ialdO dL_law_1467, s_mo_ialdO _⟩, (List.forall_mem_cons.mpr ⟨⟨s_ldAn dL_law_1468 rfl, s_mo_ldA _ _⟩, (List.forall_mem_cons.mpr ⟨⟨s_sS mk_291 mk_281 ok_281 (by decide +kernel) dL_law_1469 w_1018 w_1019, s_h0 mk_291⟩, (fun _ h => absurd h List.not_mem_nil)⟩)⟩)⟩)⟩)⟩)⟩)⟩)⟩)⟩)⟩)⟩)⟩)⟩)⟩)⟩)⟩)⟩)⟩)⟩)⟩)⟩)⟩)⟩)⟩)⟩)⟩)⟩)⟩)⟩)⟩)⟩)⟩)⟩)⟩)⟩)⟩)⟩)⟩)⟩)⟩)⟩)⟩)
set_option maxRecDepth 20000 in
theorem kb_291_23 : ∀ q ∈ tb_291_23, s_atx 291 yL_law cL_law q.1 q.2 := (List.forall_mem_cons.mpr ⟨⟨s_stI dL_law_1472, s_mo_stI _ _⟩, (List.forall_mem_cons.mpr ⟨⟨s_ldAn dL_law_1474 rfl, s_mo_ldA _ _⟩, (List.forall_mem_cons.mpr ⟨⟨s_ldAn dL_law_1475 rfl, s_mo_ldA _ _⟩, (List.forall_mem_cons.mpr ⟨⟨s_ldI dL_law_1476, s_mo_ldI _ _⟩, (List.forall_mem_cons.mpr ⟨⟨s_iconst dL_law_1478 (by decide +kernel), s_mo_push _ _⟩, (List.forall_mem_cons.mpr ⟨⟨s_iadd dL_law_1479, s_mo_bin _ _⟩, (List.forall_mem_cons.mpr ⟨⟨s_ialdO dL_law_1480, s_mo_ialdO _⟩, (List.forall_mem_cons.mpr ⟨⟨s_ldAn dL_law_1481 rfl, s_mo_ldA _ _⟩, (List.forall_mem_cons.mpr ⟨⟨s_ldI dL_law_1482, s_mo_ldI _ _⟩, (List.forall_mem_cons.mpr ⟨⟨s_iconst dL_law_1484 (by decide +kernel), s_mo_push _ _⟩, (List.forall_mem_cons.mpr ⟨⟨s_iadd dL_law_1485, s_mo_bin _ _⟩, (List.forall_mem_cons.mpr ⟨⟨s_ialdO dL_law_1486, s_mo_ialdO _⟩, (List.forall_mem_cons.mpr ⟨⟨s_ldAn dL_law_1487 rfl, s_mo_ldA _ _⟩, (List.forall_mem_cons.mpr ⟨⟨s_ldI dL_law_1488, s_mo_ldI _ _⟩, (List.forall_mem_cons.mpr ⟨⟨s_iconst dL_law_1490 (by decide +kernel), s_mo_push _ _⟩, (List.forall_mem_cons.mpr ⟨⟨s_iadd dL_law_1491, s_mo_bin _ _⟩, (List.forall_mem_cons.mpr ⟨⟨s_ialdO dL_law_1492, s_mo_ialdO _⟩, (List.forall_mem_cons.mpr ⟨⟨s_sV mk_291 mk_223 ok_223 (by decide +kernel) dL_law_1493 w_1600 w_1601 w_1602 (Or.inr ⟨8, _, _, rfl, rfl⟩), s_h0 mk_291⟩, (List.forall_mem_cons.mpr ⟨⟨s_stI dL_law_1496, s_mo_stI _ _⟩, (List.forall_mem_cons.mpr ⟨⟨s_ldAn dL_law_1498 rfl, s_mo_ldA _ _⟩, (List.forall_mem_cons.mpr ⟨⟨s_sV mk_291 mk_148 ok_148 (by decide +kernel) dL_law_1499 w_1203 w_1204 w_1205 (Or.inr ⟨8, _, _, rfl, rfl⟩), s_h0 mk_291⟩, (List.forall_mem_cons.mpr ⟨⟨s_ldI dL_law_1502, s_mo_ldI _ _⟩, (List.forall_mem_cons.mpr ⟨⟨s_iceq dL_law_1504 (by decide), s_mo_iceq _ _⟩, (List.forall_mem_cons.mpr ⟨⟨s_iconst dL_law_1507 (by decide +kernel), s_mo_push _ _⟩, (List.forall_mem_cons.mpr ⟨s_r2 mk_291 dL_law_1508, (List.forall_mem_cons.mpr ⟨⟨s_ldI dL_law_1509, s_mo_ldI _ _⟩, (List.forall_mem_cons.mpr ⟨⟨s_ifne dL_law_1511 (by decide), s_mo_ifne _ _⟩, (List.forall_mem_cons.mpr ⟨⟨s_ldAn dL_law_1514 rfl, s_mo_ldA _ _⟩, (List.forall_mem_cons.mpr ⟨⟨s_iconst dL_law_1515 (by decide +kernel), s_mo_push _ _⟩, (List.forall_mem_cons.mpr ⟨⟨s_lald dL_law_1516, s_mo_lald _⟩, (List.forall_mem_cons.mpr ⟨⟨s_ldI dL_law_1517, s_mo_ldI _ _⟩, (List.forall_mem_cons.mpr ⟨⟨s_i2l dL_law_1519, s_mo_i2l _⟩, (List.forall_mem_cons.mpr ⟨⟨s_lcmp dL_law_1520, s_mo_lcmp _⟩, (List.forall_mem_cons.mpr ⟨⟨s_ifeq dL_law_1521 (by decide), s_mo_ifeq _ _⟩, (List.forall_mem_cons.mpr ⟨⟨s_iconst dL_law_1524 (by decide +kernel), s_mo_push _ _⟩, (List.forall_mem_cons.mpr ⟨s_r2 mk_291 dL_law_1525, (List.forall_mem_cons.mpr ⟨⟨s_goto dL_law_1526 (by decide), s_mo_goto _⟩, (List.forall_mem_cons.mpr ⟨⟨s_ldAn dL_law_1529 rfl, s_mo_ldA _ _⟩, (List.forall_mem_cons.mpr ⟨⟨s_ldAn dL_law_1530 rfl, s_mo_ldA _ _⟩, (List.forall_mem_cons.mpr ⟨⟨s_ldI dL_law_1531, s_mo_ldI _ _⟩, (List.forall_mem_cons.mpr ⟨⟨s_iconst dL_law_1533 (by decide +kernel), s_mo_push _ _⟩, (List.forall_mem_cons.mpr ⟨⟨s_iadd dL_law_1534, s_mo_bin _ _⟩, (List.forall_mem_cons.mpr ⟨⟨s_ialdO dL_law_1535, s_mo_ialdO _⟩, (fun _ h => absurd h List.not_mem_nil)⟩)⟩)⟩)⟩)⟩)⟩)⟩)⟩)⟩)⟩)⟩)⟩)⟩)⟩)⟩)⟩)⟩)⟩)⟩)⟩)⟩)⟩)⟩)⟩)⟩)⟩)⟩)⟩)⟩)⟩)⟩)⟩)⟩)⟩)⟩)⟩)⟩)⟩)⟩)⟩)⟩)⟩)⟩)
set_option maxRecDepth 20000 in
theorem kb_291_24 : ∀ q ∈ tb_291_24, s_atx 291 yL_law cL_law q.1 q.2 := (List.forall_mem_cons.mpr ⟨⟨s_ldAn dL_law_1536 rfl, s_mo_ldA _ _⟩, (List.forall_mem_cons.mpr ⟨⟨s_sS mk_291 mk_282 ok_282 (by decide +kernel) dL_law_1537 w_1037 w_1038, s_h0 mk_291⟩, (List.forall_mem_cons.mpr ⟨⟨s_stI dL_law_1540, s_mo_stI _ _⟩, (List.forall_mem_cons.mpr ⟨⟨s_ldAn dL_law_1542 rfl, s_mo_ldA _ _⟩, (List.forall_mem_cons.mpr ⟨⟨s_ldAn dL_law_1543 rfl, s_mo_ldA _ _⟩, (List.forall_mem_cons.mpr ⟨⟨s_ldI dL_law_1544, s_mo_ldI _ _⟩, (List.forall_mem_cons.mpr ⟨⟨s_iconst dL_law_1546 (by decide +kernel), s_mo_push _ _⟩, (List.forall_mem_cons.mpr ⟨⟨s_iadd dL_law_1547, s_mo_bin _ _⟩, (List.forall_mem_cons.mpr ⟨⟨s_ialdO dL_law_1548, s_mo_ialdO _⟩, (List.forall_mem_cons.mpr ⟨⟨s_sV mk_291 mk_235 ok_235 (by decide +kernel) dL_law_1549 w_1657 w_1658 w_1659 (Or.inr ⟨8, _, _, rfl, rfl⟩), s_h0 mk_291⟩, (List.forall_mem_cons.mpr ⟨⟨s_stI dL_law_1552, s_mo_stI _ _⟩, (List.forall_mem_cons.mpr ⟨⟨s_ldAn dL_law_1554 rfl, s_mo_ldA _ _⟩, (List.forall_mem_cons.mpr ⟨⟨s_sV mk_291 mk_148 ok_148 (by decide +kernel) dL_law_1555 w_1203 w_1204 w_1205 (Or.inr ⟨8, _, _, rfl, rfl⟩), s_h0 mk_291⟩, (List.forall_mem_cons.mpr ⟨⟨s_ldI dL_law_1558, s_mo_ldI _ _⟩, (List.forall_mem_cons.mpr ⟨⟨s_iceq dL_law_1560 (by decide), s_mo_iceq _ _⟩, (List.forall_mem_cons.mpr ⟨⟨s_iconst dL_law_1563 (by decide +kernel), s_mo_push _ _⟩, (List.forall_mem_cons.mpr ⟨s_r2 mk_291 dL_law_1564, (List.forall_mem_cons.mpr ⟨⟨s_ldI dL_law_1565, s_mo_ldI _ _⟩, (List.forall_mem_cons.mpr ⟨⟨s_ifne dL_law_1567 (by decide), s_mo_ifne _ _⟩, (List.forall_mem_cons.mpr ⟨⟨s_ldAn dL_law_1570 rfl, s_mo_ldA _ _⟩, (List.forall_mem_cons.mpr ⟨⟨s_iconst dL_law_1571 (by decide +kernel), s_mo_push _ _⟩, (List.forall_mem_cons.mpr ⟨⟨s_lald dL_law_1572, s_mo_lald _⟩, (List.forall_mem_cons.mpr ⟨⟨s_ldI dL_law_1573, s_mo_ldI _ _⟩, (List.forall_mem_cons.mpr ⟨⟨s_i2l dL_law_1575, s_mo_i2l _⟩, (List.forall_mem_cons.mpr ⟨⟨s_lcmp dL_law_1576, s_mo_lcmp _⟩, (List.forall_mem_cons.mpr ⟨⟨s_ifeq dL_law_1577 (by decide), s_mo_ifeq _ _⟩, (List.forall_mem_cons.mpr ⟨⟨s_iconst dL_law_1580 (by decide +kernel), s_mo_push _ _⟩, (List.forall_mem_cons.mpr ⟨s_r2 mk_291 dL_law_1581, (List.forall_mem_cons.mpr ⟨⟨s_goto dL_law_1582 (by decide), s_mo_goto _⟩, (List.forall_mem_cons.mpr ⟨⟨s_ldAn dL_law_1585 rfl, s_mo_ldA _ _⟩, (List.forall_mem_cons.mpr ⟨⟨s_ldAn dL_law_1586 rfl, s_mo_ldA _ _⟩, (List.forall_mem_cons.mpr ⟨⟨s_ldI dL_law_1587, s_mo_ldI _ _⟩, (List.forall_mem_cons.mpr ⟨⟨s_iconst dL_law_1589 (by decide +kernel), s_mo_push _ _⟩, (List.forall_mem_cons.mpr ⟨⟨s_iadd dL_law_1590, s_mo_bin _ _⟩, (List.forall_mem_cons.mpr ⟨⟨s_ialdO dL_law_1591, s_mo_ialdO _⟩, (List.forall_mem_cons.mpr ⟨⟨s_ldAn dL_law_1592 rfl, s_mo_ldA _ _⟩, (List.forall_mem_cons.mpr ⟨⟨s_ldI dL_law_1593, s_mo_ldI _ _⟩, (List.forall_mem_cons.mpr ⟨⟨s_iconst dL_law_1595 (by decide +kernel), s_mo_push _ _⟩, (List.forall_mem_cons.mpr ⟨⟨s_iadd dL_law_1596, s_mo_bin _ _⟩, (List.forall_mem_cons.mpr ⟨⟨s_ialdO dL_law_1597, s_mo_ialdO _⟩, (List.forall_mem_cons.mpr ⟨⟨s_ldAn dL_law_1598 rfl, s_mo_ldA _ _⟩, (List.forall_mem_cons.mpr ⟨⟨s_ldI dL_law_1599, s_mo_ldI _ _⟩, (fun _ h => absurd h List.not_mem_nil)⟩)⟩)⟩)⟩)⟩)⟩)⟩)⟩)⟩)⟩)⟩)⟩)⟩)⟩)⟩)⟩)⟩)⟩)⟩)⟩)⟩)⟩)⟩)⟩)⟩)⟩)⟩)⟩)⟩)⟩)⟩)⟩)⟩)⟩)⟩)⟩)⟩)⟩)⟩)⟩)⟩)⟩)
set_option maxRecDepth 20000 in
theorem kb_291_25 : ∀ q ∈ tb_291_25, s_atx 291 yL_law cL_law q.1 q.2 := (List.forall_mem_cons.mpr ⟨⟨s_iconst dL_law_1601 (by decide +kernel), s_mo_push _ _⟩, (List.forall_mem_cons.mpr ⟨⟨s_iadd dL_law_1602, s_mo_bin _ _⟩, (List.forall_mem_cons.mpr ⟨⟨s_ialdO dL_law_1603, s_mo_ialdO _⟩, (List.forall_mem_cons.mpr ⟨⟨s_ldAn dL_law_1604 rfl, s_mo_ldA _ _⟩, (List.forall_mem_cons.mpr ⟨⟨s_ldI dL_law_1605, s_mo_ldI _ _⟩, (List.forall_mem_cons.mpr ⟨⟨s_iconst dL_law_1607 (by decide +kernel), s_mo_push _ _⟩, (List.forall_mem_cons.mpr ⟨⟨s_iadd dL_law_1608, s_mo_bin _ _⟩, (List.forall_mem_cons.mpr ⟨⟨s_ialdO dL_law_1609, s_mo_ialdO _⟩, (List.forall_mem_cons.mpr ⟨⟨s_ldAn dL_law_1610 rfl, s_mo_ldA _ _⟩, (List.forall_mem_cons.mpr ⟨⟨s_sS mk_291 mk_283 ok_283 (by decide +kernel) dL_law_1611 w_1044 w_1045, s_h0 mk_291⟩, (List.forall_mem_cons.mpr ⟨⟨s_stI dL_law_1614, s_mo_stI _ _⟩, (List.forall_mem_cons.mpr ⟨⟨s_ldAn dL_law_1616 rfl, s_mo_ldA _ _⟩, (List.forall_mem_cons.mpr ⟨⟨s_ldAn dL_law_1617 rfl, s_mo_ldA _ _⟩, (List.forall_mem_cons.mpr ⟨⟨s_ldI dL_law_1618, s_mo_ldI _ _⟩, (List.forall_mem_cons.mpr ⟨⟨s_iconst dL_law_1620 (by decide +kernel), s_mo_push _ _⟩, (List.forall_mem_cons.mpr ⟨⟨s_iadd dL_law_1621, s_mo_bin _ _⟩, (List.forall_mem_cons.mpr ⟨⟨s_ialdO dL_law_1622, s_mo_ialdO _⟩, (List.forall_mem_cons.mpr ⟨⟨s_ldAn dL_law_1623 rfl, s_mo_ldA _ _⟩, (List.forall_mem_cons.mpr ⟨⟨s_ldI dL_law_1624, s_mo_ldI _ _⟩, (List.forall_mem_cons.mpr ⟨⟨s_iconst dL_law_1626 (by decide +kernel), s_mo_push _ _⟩, (List.forall_mem_cons.mpr ⟨⟨s_iadd dL_law_1627, s_mo_bin _ _⟩, (List.forall_mem_cons.mpr ⟨⟨s_ialdO dL_law_1628, s_mo_ialdO _⟩, (List.forall_mem_cons.mpr ⟨⟨s_ldAn dL_law_1629 rfl, s_mo_ldA _ _⟩, (List.forall_mem_cons.mpr ⟨⟨s_ldI dL_law_1630, s_mo_ldI _ _⟩, (List.forall_mem_cons.mpr ⟨⟨s_iconst dL_law_1632 (by decide +kernel), s_mo_push _ _⟩, (List.forall_mem_cons.mpr ⟨⟨s_iadd dL_law_1633, s_mo_bin _ _⟩, (List.forall_mem_cons.mpr ⟨⟨s_ialdO dL_law_1634, s_mo_ialdO _⟩, (List.forall_mem_cons.mpr ⟨⟨s_ldAn dL_law_1635 rfl, s_mo_ldA _ _⟩, (List.forall_mem_cons.mpr ⟨⟨s_ldI dL_law_1636, s_mo_ldI _ _⟩, (List.forall_mem_cons.mpr ⟨⟨s_iconst dL_law_1638 (by decide +kernel), s_mo_push _ _⟩, (List.forall_mem_cons.mpr ⟨⟨s_iadd dL_law_1639, s_mo_bin _ _⟩, (List.forall_mem_cons.mpr ⟨⟨s_ialdO dL_law_1640, s_mo_ialdO _⟩, (List.forall_mem_cons.mpr ⟨⟨s_sV mk_291 mk_237 ok_237 (by decide +kernel) dL_law_1641 w_1661 w_1662 w_1663 (Or.inr ⟨8, _, _, rfl, rfl⟩), s_h0 mk_291⟩, (List.forall_mem_cons.mpr ⟨⟨s_stI dL_law_1644, s_mo_stI _ _⟩, (List.forall_mem_cons.mpr ⟨⟨s_ldAn dL_law_1646 rfl, s_mo_ldA _ _⟩, (List.forall_mem_cons.mpr ⟨⟨s_sV mk_291 mk_148 ok_148 (by decide +kernel) dL_law_1647 w_1203 w_1204 w_1205 (Or.inr ⟨8, _, _, rfl, rfl⟩), s_h0 mk_291⟩, (List.forall_mem_cons.mpr ⟨⟨s_ldI dL_law_1650, s_mo_ldI _ _⟩, (List.forall_mem_cons.mpr ⟨⟨s_iceq dL_law_1652 (by decide), s_mo_iceq _ _⟩, (List.forall_mem_cons.mpr ⟨⟨s_iconst dL_law_1655 (by decide +kernel), s_mo_push _ _⟩, (List.forall_mem_cons.mpr ⟨s_r2 mk_291 dL_law_1656, (List.forall_mem_cons.mpr ⟨⟨s_ldI dL_law_1657, s_mo_ldI _ _⟩, (List.forall_mem_cons.mpr ⟨⟨s_ifne dL_law_1659 (by decide), s_mo_ifne _ _⟩, (List.forall_mem_cons.mpr ⟨⟨s_ldAn dL_law_1662 rfl, s_mo_ldA _ _⟩, (List.forall_mem_cons.mpr ⟨⟨s_iconst dL_law_1663 (by decide +kernel), s_mo_push _ _⟩, (fun _ h => absurd h List.not_mem_nil)⟩)⟩)⟩)⟩)⟩)⟩)⟩)⟩)⟩)⟩)⟩)⟩)⟩)⟩)⟩)⟩)⟩)⟩)⟩)⟩)⟩)⟩)⟩)⟩)⟩)⟩)⟩)⟩)⟩)⟩)⟩)⟩)⟩)⟩)⟩)⟩)⟩)⟩)⟩)⟩)⟩)⟩)⟩)⟩)
set_option maxRecDepth 20000 in
theorem kb_291_26 : ∀ q ∈ tb_291_26, s_atx 291 yL_law cL_law q.1 q.2 := (List.forall_mem_cons.mpr ⟨⟨s_lald dL_law_1664, s_mo_lald _⟩, (List.forall_mem_cons.mpr ⟨⟨s_ldI dL_law_1665, s_mo_ldI _ _⟩, (List.forall_mem_cons.mpr ⟨⟨s_i2l dL_law_1667, s_mo_i2l _⟩, (List.forall_mem_cons.mpr ⟨⟨s_lcmp dL_law_1668, s_mo_lcmp _⟩, (List.forall_mem_cons.mpr ⟨⟨s_ifeq dL_law_1669 (by decide), s_mo_ifeq _ _⟩, (List.forall_mem_cons.mpr ⟨⟨s_iconst dL_law_1672 (by decide +kernel), s_mo_push _ _⟩, (List.forall_mem_cons.mpr ⟨s_r2 mk_291 dL_law_1673, (List.forall_mem_cons.mpr ⟨⟨s_goto dL_law_1674 (by decide), s_mo_goto _⟩, (List.forall_mem_cons.mpr ⟨⟨s_ldAn dL_law_1677 rfl, s_mo_ldA _ _⟩, (List.forall_mem_cons.mpr ⟨⟨s_ldAn dL_law_1678 rfl, s_mo_ldA _ _⟩, (List.forall_mem_cons.mpr ⟨⟨s_ldI dL_law_1679, s_mo_ldI _ _⟩, (List.forall_mem_cons.mpr ⟨⟨s_iconst dL_law_1681 (by decide +kernel), s_mo_push _ _⟩, (List.forall_mem_cons.mpr ⟨⟨s_iadd dL_law_1682, s_mo_bin _ _⟩, (List.forall_mem_cons.mpr ⟨⟨s_ialdO dL_law_1683, s_mo_ialdO _⟩, (List.forall_mem_cons.mpr ⟨⟨s_sV mk_291 mk_125 ok_125 (by decide +kernel) dL_law_1684 w_361 w_362 w_363 (Or.inr ⟨7, _, _, rfl, rfl⟩), s_h0 mk_291⟩, (List.forall_mem_cons.mpr ⟨⟨s_ldAn dL_law_1687 rfl, s_mo_ldA _ _⟩, (List.forall_mem_cons.mpr ⟨⟨s_ldAn dL_law_1688 rfl, s_mo_ldA _ _⟩, (List.forall_mem_cons.mpr ⟨⟨s_ldI dL_law_1689, s_mo_ldI _ _⟩, (List.forall_mem_cons.mpr ⟨⟨s_iconst dL_law_1691 (by decide +kernel), s_mo_push _ _⟩, (List.forall_mem_cons.mpr ⟨⟨s_iadd dL_law_1692, s_mo_bin _ _⟩, (List.forall_mem_cons.mpr ⟨⟨s_ialdO dL_law_1693, s_mo_ialdO _⟩, (List.forall_mem_cons.mpr ⟨⟨s_sV mk_291 mk_241 ok_241 (by decide +kernel) dL_law_1694 w_1684 w_1685 w_1686 (Or.inr ⟨8, _, _, rfl, rfl⟩), s_h0 mk_291⟩, (List.forall_mem_cons.mpr ⟨⟨s_iceq dL_law_1697 (by decide), s_mo_iceq _ _⟩, (List.forall_mem_cons.mpr ⟨⟨s_iconst dL_law_1700 (by decide +kernel), s_mo_push _ _⟩, (List.forall_mem_cons.mpr ⟨s_r2 mk_291 dL_law_1701, (List.forall_mem_cons.mpr ⟨⟨s_ldAn dL_law_1702 rfl, s_mo_ldA _ _⟩, (List.forall_mem_cons.mpr ⟨⟨s_ldAn dL_law_1703 rfl, s_mo_ldA _ _⟩, (List.forall_mem_cons.mpr ⟨⟨s_ldI dL_law_1704, s_mo_ldI _ _⟩, (List.forall_mem_cons.mpr ⟨⟨s_iconst dL_law_1706 (by decide +kernel), s_mo_push _ _⟩, (List.forall_mem_cons.mpr ⟨⟨s_iadd dL_law_1707, s_mo_bin _ _⟩, (List.forall_mem_cons.mpr ⟨⟨s_ialdO dL_law_1708, s_mo_ialdO _⟩, (List.forall_mem_cons.mpr ⟨⟨s_ldAn dL_law_1709 rfl, s_mo_ldA _ _⟩, (List.forall_mem_cons.mpr ⟨⟨s_ldI dL_law_1710, s_mo_ldI _ _⟩, (List.forall_mem_cons.mpr ⟨⟨s_iconst dL_law_1712 (by decide +kernel), s_mo_push _ _⟩, (List.forall_mem_cons.mpr ⟨⟨s_iadd dL_law_1713, s_mo_bin _ _⟩, (List.forall_mem_cons.mpr ⟨⟨s_ialdO dL_law_1714, s_mo_ialdO _⟩, (List.forall_mem_cons.mpr ⟨⟨s_ldAn dL_law_1715 rfl, s_mo_ldA _ _⟩, (List.forall_mem_cons.mpr ⟨⟨s_sS mk_291 mk_284 ok_284 (by decide +kernel) dL_law_1716 w_1088 w_1089, s_h0 mk_291⟩, (List.forall_mem_cons.mpr ⟨⟨s_stI dL_law_1719, s_mo_stI _ _⟩, (List.forall_mem_cons.mpr ⟨⟨s_ldAn dL_law_1721 rfl, s_mo_ldA _ _⟩, (List.forall_mem_cons.mpr ⟨⟨s_ldAn dL_law_1722 rfl, s_mo_ldA _ _⟩, (List.forall_mem_cons.mpr ⟨⟨s_ldI dL_law_1723, s_mo_ldI _ _⟩, (List.forall_mem_cons.mpr ⟨⟨s_iconst dL_law_1725 (by decide +kernel), s_mo_push _ _⟩, (List.forall_mem_cons.mpr ⟨⟨s_iadd dL_law_1726, s_mo_bin _ _⟩, (List.forall_mem_cons.mpr ⟨⟨s_ialdO dL_law_1727, s_mo_ialdO _⟩, (fun _ h => absurd h List.not_mem_nil)⟩)⟩)⟩)⟩)⟩)⟩)⟩)⟩)⟩)⟩)⟩)⟩)⟩)⟩)⟩)⟩)⟩)⟩)⟩)⟩)⟩)⟩)⟩)⟩)⟩)⟩)⟩)⟩)⟩)⟩)⟩)⟩)⟩)⟩)⟩)⟩)⟩)⟩)⟩)⟩)⟩)⟩)⟩)⟩)⟩)
set_option maxRecDepth 20000 in
theorem kb_291_27 : ∀ q ∈ tb_291_27, s_atx 291 yL_law cL_law q.1 q.2 := (List.forall_mem_cons.mpr ⟨⟨s_ldAn dL_law_1728 rfl, s_mo_ldA _ _⟩, (List.forall_mem_cons.mpr ⟨⟨s_ldI dL_law_1729, s_mo_ldI _ _⟩, (List.forall_mem_cons.mpr ⟨⟨s_iconst dL_law_1731 (by decide +kernel), s_mo_push _ _⟩, (List.forall_mem_cons.mpr ⟨⟨s_iadd dL_law_1732, s_mo_bin _ _⟩, (List.forall_mem_cons.mpr ⟨⟨s_ialdO dL_law_1733, s_mo_ialdO _⟩, (List.forall_mem_cons.mpr ⟨⟨s_sV mk_291 mk_228 ok_228 (by decide +kernel) dL_law_1734 w_1620 w_1621 w_1622 (Or.inr ⟨8, _, _, rfl, rfl⟩), s_h0 mk_291⟩, (List.forall_mem_cons.mpr ⟨⟨s_stI dL_law_1737, s_mo_stI _ _⟩, (List.forall_mem_cons.mpr ⟨⟨s_ldAn dL_law_1739 rfl, s_mo_ldA _ _⟩, (List.forall_mem_cons.mpr ⟨⟨s_sV mk_291 mk_148 ok_148 (by decide +kernel) dL_law_1740 w_1203 w_1204 w_1205 (Or.inr ⟨8, _, _, rfl, rfl⟩), s_h0 mk_291⟩, (List.forall_mem_cons.mpr ⟨⟨s_ldI dL_law_1743, s_mo_ldI _ _⟩, (List.forall_mem_cons.mpr ⟨⟨s_iceq dL_law_1745 (by decide), s_mo_iceq _ _⟩, (List.forall_mem_cons.mpr ⟨⟨s_iconst dL_law_1748 (by decide +kernel), s_mo_push _ _⟩, (List.forall_mem_cons.mpr ⟨s_r2 mk_291 dL_law_1749, (List.forall_mem_cons.mpr ⟨⟨s_ldI dL_law_1750, s_mo_ldI _ _⟩, (List.forall_mem_cons.mpr ⟨⟨s_ifne dL_law_1752 (by decide), s_mo_ifne _ _⟩, (List.forall_mem_cons.mpr ⟨⟨s_ldAn dL_law_1755 rfl, s_mo_ldA _ _⟩, (List.forall_mem_cons.mpr ⟨⟨s_iconst dL_law_1756 (by decide +kernel), s_mo_push _ _⟩, (List.forall_mem_cons.mpr ⟨⟨s_lald dL_law_1757, s_mo_lald _⟩, (List.forall_mem_cons.mpr ⟨⟨s_ldI dL_law_1758, s_mo_ldI _ _⟩, (List.forall_mem_cons.mpr ⟨⟨s_i2l dL_law_1760, s_mo_i2l _⟩, (List.forall_mem_cons.mpr ⟨⟨s_lcmp dL_law_1761, s_mo_lcmp _⟩, (List.forall_mem_cons.mpr ⟨⟨s_ifeq dL_law_1762 (by decide), s_mo_ifeq _ _⟩, (List.forall_mem_cons.mpr ⟨⟨s_iconst dL_law_1765 (by decide +kernel), s_mo_push _ _⟩, (List.forall_mem_cons.mpr ⟨s_r2 mk_291 dL_law_1766, (List.forall_mem_cons.mpr ⟨⟨s_goto dL_law_1767 (by decide), s_mo_goto _⟩, (List.forall_mem_cons.mpr ⟨⟨s_ldAn dL_law_1770 rfl, s_mo_ldA _ _⟩, (List.forall_mem_cons.mpr ⟨⟨s_ldAn dL_law_1771 rfl, s_mo_ldA _ _⟩, (List.forall_mem_cons.mpr ⟨⟨s_ldI dL_law_1772, s_mo_ldI _ _⟩, (List.forall_mem_cons.mpr ⟨⟨s_iconst dL_law_1774 (by decide +kernel), s_mo_push _ _⟩, (List.forall_mem_cons.mpr ⟨⟨s_iadd dL_law_1775, s_mo_bin _ _⟩, (List.forall_mem_cons.mpr ⟨⟨s_ialdO dL_law_1776, s_mo_ialdO _⟩, (List.forall_mem_cons.mpr ⟨⟨s_ldAn dL_law_1777 rfl, s_mo_ldA _ _⟩, (List.forall_mem_cons.mpr ⟨⟨s_ldI dL_law_1778, s_mo_ldI _ _⟩, (List.forall_mem_cons.mpr ⟨⟨s_iconst dL_law_1780 (by decide +kernel), s_mo_push _ _⟩, (List.forall_mem_cons.mpr ⟨⟨s_iadd dL_law_1781, s_mo_bin _ _⟩, (List.forall_mem_cons.mpr ⟨⟨s_ialdO dL_law_1782, s_mo_ialdO _⟩, (List.forall_mem_cons.mpr ⟨⟨s_ldAn dL_law_1783 rfl, s_mo_ldA _ _⟩, (List.forall_mem_cons.mpr ⟨⟨s_sS mk_291 mk_285 ok_285 (by decide +kernel) dL_law_1784 w_1108 w_1109, s_h0 mk_291⟩, (List.forall_mem_cons.mpr ⟨⟨s_stI dL_law_1787, s_mo_stI _ _⟩, (List.forall_mem_cons.mpr ⟨⟨s_ldAn dL_law_1789 rfl, s_mo_ldA _ _⟩, (List.forall_mem_cons.mpr ⟨⟨s_ldAn dL_law_1790 rfl, s_mo_ldA _ _⟩, (List.forall_mem_cons.mpr ⟨⟨s_ldI dL_law_1791, s_mo_ldI _ _⟩, (fun _ h => absurd h List.not_mem_nil)⟩)⟩)⟩)⟩)⟩)⟩)⟩)⟩)⟩)⟩)⟩)⟩)⟩)⟩)⟩)⟩)⟩)⟩)⟩)⟩)⟩)⟩)⟩)⟩)⟩)⟩)⟩)⟩)⟩)⟩)⟩)⟩)⟩)⟩)⟩)⟩)⟩)⟩)⟩)⟩)⟩)⟩)
set_option maxRecDepth 20000 in
theorem kb_291_28 : ∀ q ∈ tb_291_28, s_atx 291 yL_law cL_law q.1 q.2 := (List.forall_mem_cons.mpr ⟨⟨s_iconst dL_law_1793 (by decide +kernel), s_mo_push _ _⟩, (List.forall_mem_cons.mpr ⟨⟨s_iadd dL_law_1794, s_mo_bin _ _⟩, (List.forall_mem_cons.mpr ⟨⟨s_ialdO dL_law_1795, s_mo_ialdO _⟩, (List.forall_mem_cons.mpr ⟨⟨s_ldAn dL_law_1796 rfl, s_mo_ldA _ _⟩, (List.forall_mem_cons.mpr ⟨⟨s_ldI dL_law_1797, s_mo_ldI _ _⟩, (List.forall_mem_cons.mpr ⟨⟨s_iconst dL_law_1799 (by decide +kernel), s_mo_push _ _⟩, (List.forall_mem_cons.mpr ⟨⟨s_iadd dL_law_1800, s_mo_bin _ _⟩, (List.forall_mem_cons.mpr ⟨⟨s_ialdO dL_law_1801, s_mo_ialdO _⟩, (List.forall_mem_cons.mpr ⟨⟨s_sV mk_291 mk_227 ok_227 (by decide +kernel) dL_law_1802 w_1608 w_1609 w_1610 (Or.inr ⟨8, _, _, rfl, rfl⟩), s_h0 mk_291⟩, (List.forall_mem_cons.mpr ⟨⟨s_stI dL_law_1805, s_mo_stI _ _⟩, (List.forall_mem_cons.mpr ⟨⟨s_ldAn dL_law_1807 rfl, s_mo_ldA _ _⟩, (List.forall_mem_cons.mpr ⟨⟨s_sV mk_291 mk_148 ok_148 (by decide +kernel) dL_law_1808 w_1203 w_1204 w_1205 (Or.inr ⟨8, _, _, rfl, rfl⟩), s_h0 mk_291⟩, (List.forall_mem_cons.mpr ⟨⟨s_ldI dL_law_1811, s_mo_ldI _ _⟩, (List.forall_mem_cons.mpr ⟨⟨s_iceq dL_law_1813 (by decide), s_mo_iceq _ _⟩, (List.forall_mem_cons.mpr ⟨⟨s_iconst dL_law_1816 (by decide +kernel), s_mo_push _ _⟩, (List.forall_mem_cons.mpr ⟨s_r2 mk_291 dL_law_1817, (List.forall_mem_cons.mpr ⟨⟨s_ldI dL_law_1818, s_mo_ldI _ _⟩, (List.forall_mem_cons.mpr ⟨⟨s_ifne dL_law_1820 (by decide), s_mo_ifne _ _⟩, (List.forall_mem_cons.mpr ⟨⟨s_ldAn dL_law_1823 rfl, s_mo_ldA _ _⟩, (List.forall_mem_cons.mpr ⟨⟨s_iconst dL_law_1824 (by decide +kernel), s_mo_push _ _⟩, (List.forall_mem_cons.mpr ⟨⟨s_lald dL_law_1825, s_mo_lald _⟩, (List.forall_mem_cons.mpr ⟨⟨s_ldI dL_law_1826, s_mo_ldI _ _⟩, (List.forall_mem_cons.mpr ⟨⟨s_i2l dL_law_1828, s_mo_i2l _⟩, (List.forall_mem_cons.mpr ⟨⟨s_lcmp dL_law_1829, s_mo_lcmp _⟩, (List.forall_mem_cons.mpr ⟨⟨s_ifeq dL_law_1830 (by decide), s_mo_ifeq _ _⟩, (List.forall_mem_cons.mpr ⟨⟨s_iconst dL_law_1833 (by decide +kernel), s_mo_push _ _⟩, (List.forall_mem_cons.mpr ⟨s_r2 mk_291 dL_law_1834, (List.forall_mem_cons.mpr ⟨⟨s_goto dL_law_1835 (by decide), s_mo_goto _⟩, (List.forall_mem_cons.mpr ⟨⟨s_ldAn dL_law_1838 rfl, s_mo_ldA _ _⟩, (List.forall_mem_cons.mpr ⟨⟨s_ldAn dL_law_1839 rfl, s_mo_ldA _ _⟩, (List.forall_mem_cons.mpr ⟨⟨s_ldI dL_law_1840, s_mo_ldI _ _⟩, (List.forall_mem_cons.mpr ⟨⟨s_iconst dL_law_1842 (by decide +kernel), s_mo_push _ _⟩, (List.forall_mem_cons.mpr ⟨⟨s_iadd dL_law_1843, s_mo_bin _ _⟩, (List.forall_mem_cons.mpr ⟨⟨s_ialdO dL_law_1844, s_mo_ialdO _⟩, (List.forall_mem_cons.mpr ⟨⟨s_ldAn dL_law_1845 rfl, s_mo_ldA _ _⟩, (List.forall_mem_cons.mpr ⟨⟨s_ldI dL_law_1846, s_mo_ldI _ _⟩, (List.forall_mem_cons.mpr ⟨⟨s_iconst dL_law_1848 (by decide +kernel), s_mo_push _ _⟩, (List.forall_mem_cons.mpr ⟨⟨s_iadd dL_law_1849, s_mo_bin _ _⟩, (List.forall_mem_cons.mpr ⟨⟨s_ialdO dL_law_1850, s_mo_ialdO _⟩, (List.forall_mem_cons.mpr ⟨⟨s_ldAn dL_law_1851 rfl, s_mo_ldA _ _⟩, (List.forall_mem_cons.mpr ⟨⟨s_ldI dL_law_1852, s_mo_ldI _ _⟩, (List.forall_mem_cons.mpr ⟨⟨s_iconst dL_law_1854 (by decide +kernel), s_mo_push _ _⟩, (List.forall_mem_cons.mpr ⟨⟨s_iadd dL_law_1855, s_mo_bin _ _⟩, (fun _ h => absurd h List.not_mem_nil)⟩)⟩)⟩)⟩)⟩)⟩)⟩)⟩)⟩)⟩)⟩)⟩)⟩)⟩)⟩)⟩)⟩)⟩)⟩)⟩)⟩)⟩)⟩)⟩)⟩)⟩)⟩)⟩)⟩)⟩)⟩)⟩)⟩)⟩)⟩)⟩)⟩)⟩)⟩)⟩)⟩)⟩)⟩)
set_option maxRecDepth 20000 in
theorem kb_291_29 : ∀ q ∈ tb_291_29, s_atx 291 yL_law cL_law q.1 q.2 := (List.forall_mem_cons.mpr ⟨⟨s_ialdO dL_law_1856, s_mo_ialdO _⟩, (List.forall_mem_cons.mpr ⟨⟨s_ifeq dL_law_1857 (by decide), s_mo_ifeq _ _⟩, (List.forall_mem_cons.mpr ⟨⟨s_iconst dL_law_1860 (by decide +kernel), s_mo_push _ _⟩, (List.forall_mem_cons.mpr ⟨⟨s_goto dL_law_1861 (by decide), s_mo_goto _⟩, (List.forall_mem_cons.mpr ⟨⟨s_iconst dL_law_1864 (by decide +kernel), s_mo_push _ _⟩, (List.forall_mem_cons.mpr ⟨⟨s_ldAn dL_law_1865 rfl, s_mo_ldA _ _⟩, (List.forall_mem_cons.mpr ⟨⟨s_sS mk_291 mk_286 ok_286 (by decide +kernel) dL_law_1866 w_1115 w_1116, s_h0 mk_291⟩, (List.forall_mem_cons.mpr ⟨⟨s_stI dL_law_1869, s_mo_stI _ _⟩, (List.forall_mem_cons.mpr ⟨⟨s_ldAn dL_law_1871 rfl, s_mo_ldA _ _⟩, (List.forall_mem_cons.mpr ⟨⟨s_ldAn dL_law_1872 rfl, s_mo_ldA _ _⟩, (List.forall_mem_cons.mpr ⟨⟨s_ldI dL_law_1873, s_mo_ldI _ _⟩, (List.forall_mem_cons.mpr ⟨⟨s_iconst dL_law_1875 (by decide +kernel), s_mo_push _ _⟩, (List.forall_mem_cons.mpr ⟨⟨s_iadd dL_law_1876, s_mo_bin _ _⟩, (List.forall_mem_cons.mpr ⟨⟨s_ialdO dL_law_1877, s_mo_ialdO _⟩, (List.forall_mem_cons.mpr ⟨⟨s_ldAn dL_law_1878 rfl, s_mo_ldA _ _⟩, (List.forall_mem_cons.mpr ⟨⟨s_ldI dL_law_1879, s_mo_ldI _ _⟩, (List.forall_mem_cons.mpr ⟨⟨s_iconst dL_law_1881 (by decide +kernel), s_mo_push _ _⟩, (List.forall_mem_cons.mpr ⟨⟨s_iadd dL_law_1882, s_mo_bin _ _⟩, (List.forall_mem_cons.mpr ⟨⟨s_ialdO dL_law_1883, s_mo_ialdO _⟩, (List.forall_mem_cons.mpr ⟨⟨s_ldAn dL_law_1884 rfl, s_mo_ldA _ _⟩, (List.forall_mem_cons.mpr ⟨⟨s_ldI dL_law_1885, s_mo_ldI _ _⟩, (List.forall_mem_cons.mpr ⟨⟨s_iconst dL_law_1887 (by decide +kernel), s_mo_push _ _⟩, (List.forall_mem_cons.mpr ⟨⟨s_iadd dL_law_1888, s_mo_bin _ _⟩, (List.forall_mem_cons.mpr ⟨⟨s_ialdO dL_law_1889, s_mo_ialdO _⟩, (List.forall_mem_cons.mpr ⟨⟨s_ifeq dL_law_1890 (by decide), s_mo_ifeq _ _⟩, (List.forall_mem_cons.mpr ⟨⟨s_iconst dL_law_1893 (by decide +kernel), s_mo_push _ _⟩, (List.forall_mem_cons.mpr ⟨⟨s_goto dL_law_1894 (by decide), s_mo_goto _⟩, (List.forall_mem_cons.mpr ⟨⟨s_iconst dL_law_1897 (by decide +kernel), s_mo_push _ _⟩, (List.forall_mem_cons.mpr ⟨⟨s_sV mk_291 mk_229 ok_229 (by decide +kernel) dL_law_1898 w_1629 w_1630 w_1631 (Or.inr ⟨8, _, _, rfl, rfl⟩), s_h0 mk_291⟩, (List.forall_mem_cons.mpr ⟨⟨s_stI dL_law_1901, s_mo_stI _ _⟩, (List.forall_mem_cons.mpr ⟨⟨s_ldAn dL_law_1903 rfl, s_mo_ldA _ _⟩, (List.forall_mem_cons.mpr ⟨⟨s_sV mk_291 mk_148 ok_148 (by decide +kernel) dL_law_1904 w_1203 w_1204 w_1205 (Or.inr ⟨8, _, _, rfl, rfl⟩), s_h0 mk_291⟩, (List.forall_mem_cons.mpr ⟨⟨s_ldI dL_law_1907, s_mo_ldI _ _⟩, (List.forall_mem_cons.mpr ⟨⟨s_iceq dL_law_1909 (by decide), s_mo_iceq _ _⟩, (List.forall_mem_cons.mpr ⟨⟨s_iconst dL_law_1912 (by decide +kernel), s_mo_push _ _⟩, (List.forall_mem_cons.mpr ⟨s_r2 mk_291 dL_law_1913, (List.forall_mem_cons.mpr ⟨⟨s_ldI dL_law_1914, s_mo_ldI _ _⟩, (List.forall_mem_cons.mpr ⟨⟨s_ifne dL_law_1916 (by decide), s_mo_ifne _ _⟩, (List.forall_mem_cons.mpr ⟨⟨s_ldAn dL_law_1919 rfl, s_mo_ldA _ _⟩, (fun _ h => absurd h List.not_mem_nil)⟩)⟩)⟩)⟩)⟩)⟩)⟩)⟩)⟩)⟩)⟩)⟩)⟩)⟩)⟩)⟩)⟩)⟩)⟩)⟩)⟩)⟩)⟩)⟩)⟩)⟩)⟩)⟩)⟩)⟩)⟩)⟩)⟩)⟩)⟩)⟩)⟩)⟩)⟩)
set_option maxRecDepth 20000 in
theorem kb_291_30 : ∀ q ∈ tb_291_30, s_atx 291 yL_law cL_law q.1 q.2 := (List.forall_mem_cons.mpr ⟨⟨s_iconst dL_law_1920 (by decide +kernel), s_mo_push _ _⟩, (List.forall_mem_cons.mpr ⟨⟨s_lald dL_law_1921, s_mo_lald _⟩, (List.forall_mem_cons.mpr ⟨⟨s_ldI dL_law_1922, s_mo_ldI _ _⟩, (List.forall_mem_cons.mpr ⟨⟨s_i2l dL_law_1924, s_mo_i2l _⟩, (List.forall_mem_cons.mpr ⟨⟨s_lcmp dL_law_1925, s_mo_lcmp _⟩, (List.forall_mem_cons.mpr ⟨⟨s_ifeq dL_law_1926 (by decide), s_mo_ifeq _ _⟩, (List.forall_mem_cons.mpr ⟨⟨s_iconst dL_law_1929 (by decide +kernel), s_mo_push _ _⟩, (List.forall_mem_cons.mpr ⟨s_r2 mk_291 dL_law_1930, (List.forall_mem_cons.mpr ⟨⟨s_goto dL_law_1931 (by decide), s_mo_goto _⟩, (List.forall_mem_cons.mpr ⟨⟨s_ldAn dL_law_1934 rfl, s_mo_ldA _ _⟩, (List.forall_mem_cons.mpr ⟨⟨s_ldAn dL_law_1935 rfl, s_mo_ldA _ _⟩, (List.forall_mem_cons.mpr ⟨⟨s_ldI dL_law_1936, s_mo_ldI _ _⟩, (List.forall_mem_cons.mpr ⟨⟨s_iconst dL_law_1938 (by decide +kernel), s_mo_push _ _⟩, (List.forall_mem_cons.mpr ⟨⟨s_iadd dL_law_1939, s_mo_bin _ _⟩, (List.forall_mem_cons.mpr ⟨⟨s_ialdO dL_law_1940, s_mo_ialdO _⟩, (List.forall_mem_cons.mpr ⟨⟨s_ldAn dL_law_1941 rfl, s_mo_ldA _ _⟩, (List.forall_mem_cons.mpr ⟨⟨s_ldI dL_law_1942, s_mo_ldI _ _⟩, (List.forall_mem_cons.mpr ⟨⟨s_iconst dL_law_1944 (by decide +kernel), s_mo_push _ _⟩, (List.forall_mem_cons.mpr ⟨⟨s_iadd dL_law_1945, s_mo_bin _ _⟩, (List.forall_mem_cons.mpr ⟨⟨s_ialdO dL_law_1946, s_mo_ialdO _⟩, (List.forall_mem_cons.mpr ⟨⟨s_ldAn dL_law_1947 rfl, s_mo_ldA _ _⟩, (List.forall_mem_cons.mpr ⟨⟨s_ldI dL_law_1948, s_mo_ldI _ _⟩, (List.forall_mem_cons.mpr ⟨⟨s_iconst dL_law_1950 (by decide +kernel), s_mo_push _ _⟩, (List.forall_mem_cons.mpr ⟨⟨s_iadd dL_law_1951, s_mo_bin _ _⟩, (List.forall_mem_cons.mpr ⟨⟨s_ialdO dL_law_1952, s_mo_ialdO _⟩, (List.forall_mem_cons.mpr ⟨⟨s_ldAn dL_law_1953 rfl, s_mo_ldA _ _⟩, (List.forall_mem_cons.mpr ⟨⟨s_ldI dL_law_1954, s_mo_ldI _ _⟩, (List.forall_mem_cons.mpr ⟨⟨s_iconst dL_law_1956 (by decide +kernel), s_mo_push _ _⟩, (List.forall_mem_cons.mpr ⟨⟨s_iadd dL_law_1957, s_mo_bin _ _⟩, (List.forall_mem_cons.mpr ⟨⟨s_ialdO dL_law_1958, s_mo_ialdO _⟩, (List.forall_mem_cons.mpr ⟨⟨s_ldAn dL_law_1959 rfl, s_mo_ldA _ _⟩, (List.forall_mem_cons.mpr ⟨⟨s_ldI dL_law_1960, s_mo_ldI _ _⟩, (List.forall_mem_cons.mpr ⟨⟨s_iconst dL_law_1962 (by decide +kernel), s_mo_push _ _⟩, (List.forall_mem_cons.mpr ⟨⟨s_iadd dL_law_1963, s_mo_bin _ _⟩, (List.forall_mem_cons.mpr ⟨⟨s_ialdO dL_law_1964, s_mo_ialdO _⟩, (List.forall_mem_cons.mpr ⟨⟨s_ldAn dL_law_1965 rfl, s_mo_ldA _ _⟩, (List.forall_mem_cons.mpr ⟨⟨s_sS mk_291 mk_287 ok_287 (by decide +kernel) dL_law_1966 w_1135 w_1136, s_h0 mk_291⟩, (List.forall_mem_cons.mpr ⟨⟨s_stI dL_law_1969, s_mo_stI _ _⟩, (List.forall_mem_cons.mpr ⟨⟨s_ldAn dL_law_1971 rfl, s_mo_ldA _ _⟩, (List.forall_mem_cons.mpr ⟨⟨s_ldAn dL_law_1972 rfl, s_mo_ldA _ _⟩, (List.forall_mem_cons.mpr ⟨⟨s_ldI dL_law_1973, s_mo_ldI _ _⟩, (List.forall_mem_cons.mpr ⟨⟨s_iconst dL_law_1975 (by decide +kernel), s_mo_push _ _⟩, (List.forall_mem_cons.mpr ⟨⟨s_iadd dL_law_1976, s_mo_bin _ _⟩, (List.forall_mem_cons.mpr ⟨⟨s_ialdO dL_law_1977, s_mo_ialdO _⟩, (List.forall_mem_cons.mpr ⟨⟨s_ldAn dL_law_1978 rfl, s_mo_ldA _ _⟩, (List.forall_mem_cons.mpr ⟨⟨s_ldI dL_law_1979, s_mo_ldI _ _⟩, (List.forall_mem_cons.mpr ⟨⟨s_iconst dL_law_1981 (by decide +kernel), s_mo_push _ _⟩, (List.forall_mem_cons.mpr ⟨⟨s_iadd dL_law_1982, s_mo_bin _ _⟩, (List.forall_mem_cons.mpr ⟨⟨s_ialdO dL_law_1983, s_mo_ialdO _⟩, (fun _ h => absurd h List.not_mem_nil)⟩)⟩)⟩)⟩)⟩)⟩)⟩)⟩)⟩)⟩)⟩)⟩)⟩)⟩)⟩)⟩)⟩)⟩)⟩)⟩)⟩)⟩)⟩)⟩)⟩)⟩)⟩)⟩)⟩)⟩)⟩)⟩)⟩)⟩)⟩)⟩)⟩)⟩)⟩)⟩)⟩)⟩)⟩)⟩)⟩)⟩)⟩)⟩)⟩)
set_option maxRecDepth 20000 in
theorem kb_291_31 : ∀ q ∈ tb_291_31, s_atx 291 yL_law cL_law q.1 q.2 := (List.forall_mem_cons.mpr ⟨⟨s_ldAn dL_law_1984 rfl, s_mo_ldA _ _⟩, (List.forall_mem_cons.mpr ⟨⟨s_ldI dL_law_1985, s_mo_ldI _ _⟩, (List.forall_mem_cons.mpr ⟨⟨s_iconst dL_law_1987 (by decide +kernel), s_mo_push _ _⟩, (List.forall_mem_cons.mpr ⟨⟨s_iadd dL_law_1988, s_mo_bin _ _⟩, (List.forall_mem_cons.mpr ⟨⟨s_ialdO dL_law_1989, s_mo_ialdO _⟩, (List.forall_mem_cons.mpr ⟨⟨s_ldAn dL_law_1990 rfl, s_mo_ldA _ _⟩, (List.forall_mem_cons.mpr ⟨⟨s_ldI dL_law_1991, s_mo_ldI _ _⟩, (List.forall_mem_cons.mpr ⟨⟨s_iconst dL_law_1993 (by decide +kernel), s_mo_push _ _⟩, (List.forall_mem_cons.mpr ⟨⟨s_iadd dL_law_1994, s_mo_bin _ _⟩, (List.forall_mem_cons.mpr ⟨⟨s_ialdO dL_law_1995, s_mo_ialdO _⟩, (List.forall_mem_cons.mpr ⟨⟨s_ldAn dL_law_1996 rfl, s_mo_ldA _ _⟩, (List.forall_mem_cons.mpr ⟨⟨s_ldI dL_law_1997, s_mo_ldI _ _⟩, (List.forall_mem_cons.mpr ⟨⟨s_iconst dL_law_1999 (by decide +kernel), s_mo_push _ _⟩, (List.forall_mem_cons.mpr ⟨⟨s_iadd dL_law_2000, s_mo_bin _ _⟩, (List.forall_mem_cons.mpr ⟨⟨s_ialdO dL_law_2001, s_mo_ialdO _⟩, (List.forall_mem_cons.mpr ⟨⟨s_sV mk_291 mk_233 ok_233 (by decide +kernel) dL_law_2002 w_1637 w_1638 w_1639 (Or.inr ⟨8, _, _, rfl, rfl⟩), s_h0 mk_291⟩, (List.forall_mem_cons.mpr ⟨⟨s_stI dL_law_2005, s_mo_stI _ _⟩, (List.forall_mem_cons.mpr ⟨⟨s_ldAn dL_law_2007 rfl, s_mo_ldA _ _⟩, (List.forall_mem_cons.mpr ⟨⟨s_sV mk_291 mk_148 ok_148 (by decide +kernel) dL_law_2008 w_1203 w_1204 w_1205 (Or.inr ⟨8, _, _, rfl, rfl⟩), s_h0 mk_291⟩, (List.forall_mem_cons.mpr ⟨⟨s_ldI dL_law_2011, s_mo_ldI _ _⟩, (List.forall_mem_cons.mpr ⟨⟨s_iceq dL_law_2013 (by decide), s_mo_iceq _ _⟩, (List.forall_mem_cons.mpr ⟨⟨s_iconst dL_law_2016 (by decide +kernel), s_mo_push _ _⟩, (List.forall_mem_cons.mpr ⟨s_r2 mk_291 dL_law_2017, (List.forall_mem_cons.mpr ⟨⟨s_ldI dL_law_2018, s_mo_ldI _ _⟩, (List.forall_mem_cons.mpr ⟨⟨s_ifne dL_law_2020 (by decide), s_mo_ifne _ _⟩, (List.forall_mem_cons.mpr ⟨⟨s_ldAn dL_law_2023 rfl, s_mo_ldA _ _⟩, (List.forall_mem_cons.mpr ⟨⟨s_iconst dL_law_2024 (by decide +kernel), s_mo_push _ _⟩, (List.forall_mem_cons.mpr ⟨⟨s_lald dL_law_2025, s_mo_lald _⟩, (List.forall_mem_cons.mpr ⟨⟨s_ldI dL_law_2026, s_mo_ldI _ _⟩, (List.forall_mem_cons.mpr ⟨⟨s_i2l dL_law_2028, s_mo_i2l _⟩, (List.forall_mem_cons.mpr ⟨⟨s_lcmp dL_law_2029, s_mo_lcmp _⟩, (List.forall_mem_cons.mpr ⟨⟨s_ifeq dL_law_2030 (by decide), s_mo_ifeq _ _⟩, (List.forall_mem_cons.mpr ⟨⟨s_iconst dL_law_2033 (by decide +kernel), s_mo_push _ _⟩, (List.forall_mem_cons.mpr ⟨s_r2 mk_291 dL_law_2034, (List.forall_mem_cons.mpr ⟨⟨s_goto dL_law_2035 (by decide), s_mo_goto _⟩, (List.forall_mem_cons.mpr ⟨⟨s_ldAn dL_law_2038 rfl, s_mo_ldA _ _⟩, (List.forall_mem_cons.mpr ⟨⟨s_ldAn dL_law_2039 rfl, s_mo_ldA _ _⟩, (List.forall_mem_cons.mpr ⟨⟨s_ldI dL_law_2040, s_mo_ldI _ _⟩, (List.forall_mem_cons.mpr ⟨⟨s_iconst dL_law_2042 (by decide +kernel), s_mo_push _ _⟩, (List.forall_mem_cons.mpr ⟨⟨s_iadd dL_law_2043, s_mo_bin _ _⟩, (List.forall_mem_cons.mpr ⟨⟨s_ialdO dL_law_2044, s_mo_ialdO _⟩, (List.forall_mem_cons.mpr ⟨⟨s_ldAn dL_law_2045 rfl, s_mo_ldA _ _⟩, (List.forall_mem_cons.mpr ⟨⟨s_ldI dL_law_2046, s_mo_ldI _ _⟩, (fun _ h => absurd h List.not_mem_nil)⟩)⟩)⟩)⟩)⟩)⟩)⟩)⟩)⟩)⟩)⟩)⟩)⟩)⟩)⟩)⟩)⟩)⟩)⟩)⟩)⟩)⟩)⟩)⟩)⟩)⟩)⟩)⟩)⟩)⟩)⟩)⟩)⟩)⟩)⟩)⟩)⟩)⟩)⟩)⟩)⟩)⟩)⟩)
set_option maxRecDepth 20000 in
theorem kb_291_32 : ∀ q ∈ tb_291_32, s_atx 291 yL_law cL_law q.1 q.2 := (List.forall_mem_cons.mpr ⟨⟨s_iconst dL_law_2048 (by decide +kernel), s_mo_push _ _⟩, (List.forall_mem_cons.mpr ⟨⟨s_iadd dL_law_2049, s_mo_bin _ _⟩, (List.forall_mem_cons.mpr ⟨⟨s_ialdO dL_law_2050, s_mo_ialdO _⟩, (List.forall_mem_cons.mpr ⟨⟨s_ldAn dL_law_2051 rfl, s_mo_ldA _ _⟩, (List.forall_mem_cons.mpr ⟨⟨s_ldI dL_law_2052, s_mo_ldI _ _⟩, (List.forall_mem_cons.mpr ⟨⟨s_iconst dL_law_2054 (by decide +kernel), s_mo_push _ _⟩, (List.forall_mem_cons.mpr ⟨⟨s_iadd dL_law_2055, s_mo_bin _ _⟩, (List.forall_mem_cons.mpr ⟨⟨s_ialdO dL_law_2056, s_mo_ialdO _⟩, (List.forall_mem_cons.mpr ⟨⟨s_ldAn dL_law_2057 rfl, s_mo_ldA _ _⟩, (List.forall_mem_cons.mpr ⟨⟨s_sS mk_291 mk_288 ok_288 (by decide +kernel) dL_law_2058 w_1154 w_1155, s_h0 mk_291⟩, (List.forall_mem_cons.mpr ⟨⟨s_stI dL_law_2061, s_mo_stI _ _⟩, (List.forall_mem_cons.mpr ⟨⟨s_ldAn dL_law_2063 rfl, s_mo_ldA _ _⟩, (List.forall_mem_cons.mpr ⟨⟨s_ldAn dL_law_2064 rfl, s_mo_ldA _ _⟩, (List.forall_mem_cons.mpr ⟨⟨s_ldI dL_law_2065, s_mo_ldI _ _⟩, (List.forall_mem_cons.mpr ⟨⟨s_iconst dL_law_2067 (by decide +kernel), s_mo_push _ _⟩, (List.forall_mem_cons.mpr ⟨⟨s_iadd dL_law_2068, s_mo_bin _ _⟩, (List.forall_mem_cons.mpr ⟨⟨s_ialdO dL_law_2069, s_mo_ialdO _⟩, (List.forall_mem_cons.mpr ⟨⟨s_ldAn dL_law_2070 rfl, s_mo_ldA _ _⟩, (List.forall_mem_cons.mpr ⟨⟨s_ldI dL_law_2071, s_mo_ldI _ _⟩, (List.forall_mem_cons.mpr ⟨⟨s_iconst dL_law_2073 (by decide +kernel), s_mo_push _ _⟩, (List.forall_mem_cons.mpr ⟨⟨s_iadd dL_law_2074, s_mo_bin _ _⟩, (List.forall_mem_cons.mpr ⟨⟨s_ialdO dL_law_2075, s_mo_ialdO _⟩, (List.forall_mem_cons.mpr ⟨⟨s_ldAn dL_law_2076 rfl, s_mo_ldA _ _⟩, (List.forall_mem_cons.mpr ⟨⟨s_ldI dL_law_2077, s_mo_ldI _ _⟩, (List.forall_mem_cons.mpr ⟨⟨s_iconst dL_law_2079 (by decide +kernel), s_mo_push _ _⟩, (List.forall_mem_cons.mpr ⟨⟨s_iadd dL_law_2080, s_mo_bin _ _⟩, (List.forall_mem_cons.mpr ⟨⟨s_ialdO dL_law_2081, s_mo_ialdO _⟩, (List.forall_mem_cons.mpr ⟨⟨s_sV mk_291 mk_234 ok_234 (by decide +kernel) dL_law_2082 w_1653 w_1654 w_1655 (Or.inr ⟨8, _, _, rfl, rfl⟩), s_h0 mk_291⟩, (List.forall_mem_cons.mpr ⟨⟨s_stI dL_law_2085, s_mo_stI _ _⟩, (List.forall_mem_cons.mpr ⟨⟨s_ldAn dL_law_2087 rfl, s_mo_ldA _ _⟩, (List.forall_mem_cons.mpr ⟨⟨s_sV mk_291 mk_148 ok_148 (by decide +kernel) dL_law_2088 w_1203 w_1204 w_1205 (Or.inr ⟨8, _, _, rfl, rfl⟩), s_h0 mk_291⟩, (List.forall_mem_cons.mpr ⟨⟨s_ldI dL_law_2091, s_mo_ldI _ _⟩, (List.forall_mem_cons.mpr ⟨⟨s_iceq dL_law_2093 (by decide), s_mo_iceq _ _⟩, (List.forall_mem_cons.mpr ⟨⟨s_iconst dL_law_2096 (by decide +kernel), s_mo_push _ _⟩, (List.forall_mem_cons.mpr ⟨s_r2 mk_291 dL_law_2097, (List.forall_mem_cons.mpr ⟨⟨s_ldI dL_law_2098, s_mo_ldI _ _⟩, (List.forall_mem_cons.mpr ⟨⟨s_ifne dL_law_2100 (by decide), s_mo_ifne _ _⟩, (List.forall_mem_cons.mpr ⟨⟨s_ldAn dL_law_2103 rfl, s_mo_ldA _ _⟩, (List.forall_mem_cons.mpr ⟨⟨s_iconst dL_law_2104 (by decide +kernel), s_mo_push _ _⟩, (List.forall_mem_cons.mpr ⟨⟨s_lald dL_law_2105, s_mo_lald _⟩, (List.forall_mem_cons.mpr ⟨⟨s_ldI dL_law_2106, s_mo_ldI _ _⟩, (List.forall_mem_cons.mpr ⟨⟨s_i2l dL_law_2108, s_mo_i2l _⟩, (List.forall_mem_cons.mpr ⟨⟨s_lcmp dL_law_2109, s_mo_lcmp _⟩, (List.forall_mem_cons.mpr ⟨⟨s_ifeq dL_law_2110 (by decide), s_mo_ifeq _ _⟩, (fun _ h => absurd h List.not_mem_nil)⟩)⟩)⟩)⟩)⟩)⟩)⟩)⟩)⟩)⟩)⟩)⟩)⟩)⟩)⟩)⟩)⟩)⟩)⟩)⟩)⟩)⟩)⟩)⟩)⟩)⟩)⟩)⟩)⟩)⟩)⟩)⟩)⟩)⟩)⟩)⟩)⟩)⟩)⟩)⟩)⟩)⟩)⟩)⟩)
set_option maxRecDepth 20000 in
theorem kb_291_33 : ∀ q ∈ tb_291_33, s_atx 291 yL_law cL_law q.1 q.2 := (List.forall_mem_cons.mpr ⟨⟨s_iconst dL_law_2113 (by decide +kernel), s_mo_push _ _⟩, (List.forall_mem_cons.mpr ⟨s_r2 mk_291 dL_law_2114, (List.forall_mem_cons.mpr ⟨⟨s_goto dL_law_2115 (by decide), s_mo_goto _⟩, (List.forall_mem_cons.mpr ⟨⟨s_ldAn dL_law_2118 rfl, s_mo_ldA _ _⟩, (List.forall_mem_cons.mpr ⟨⟨s_ldAn dL_law_2119 rfl, s_mo_ldA _ _⟩, (List.forall_mem_cons.mpr ⟨⟨s_ldI dL_law_2120, s_mo_ldI _ _⟩, (List.forall_mem_cons.mpr ⟨⟨s_iconst dL_law_2122 (by decide +kernel), s_mo_push _ _⟩, (List.forall_mem_cons.mpr ⟨⟨s_iadd dL_law_2123, s_mo_bin _ _⟩, (List.forall_mem_cons.mpr ⟨⟨s_ialdO dL_law_2124, s_mo_ialdO _⟩, (List.forall_mem_cons.mpr ⟨⟨s_ldAn dL_law_2125 rfl, s_mo_ldA _ _⟩, (List.forall_mem_cons.mpr ⟨⟨s_ldI dL_law_2126, s_mo_ldI _ _⟩, (List.forall_mem_cons.mpr ⟨⟨s_iconst dL_law_2128 (by decide +kernel), s_mo_push _ _⟩, (List.forall_mem_cons.mpr ⟨⟨s_iadd dL_law_2129, s_mo_bin _ _⟩, (List.forall_mem_cons.mpr ⟨⟨s_ialdO dL_law_2130, s_mo_ialdO _⟩, (List.forall_mem_cons.mpr ⟨⟨s_ldAn dL_law_2131 rfl, s_mo_ldA _ _⟩, (List.forall_mem_cons.mpr ⟨⟨s_sS mk_291 mk_289 ok_289 (by decide +kernel) dL_law_2132 w_1166 w_1167, s_h0 mk_291⟩, (List.forall_mem_cons.mpr ⟨⟨s_stI dL_law_2135, s_mo_stI _ _⟩, (List.forall_mem_cons.mpr ⟨⟨s_ldAn dL_law_2137 rfl, s_mo_ldA _ _⟩, (List.forall_mem_cons.mpr ⟨⟨s_ldAn dL_law_2138 rfl, s_mo_ldA _ _⟩, (List.forall_mem_cons.mpr ⟨⟨s_ldI dL_law_2139, s_mo_ldI _ _⟩, (List.forall_mem_cons.mpr ⟨⟨s_iconst dL_law_2141 (by decide +kernel), s_mo_push _ _⟩, (List.forall_mem_cons.mpr ⟨⟨s_iadd dL_law_2142, s_mo_bin _ _⟩, (List.forall_mem_cons.mpr ⟨⟨s_ialdO dL_law_2143, s_mo_ialdO _⟩, (List.forall_mem_cons.mpr ⟨⟨s_ldAn dL_law_2144 rfl, s_mo_ldA _ _⟩, (List.forall_mem_cons.mpr ⟨⟨s_ldI dL_law_2145, s_mo_ldI _ _⟩, (List.forall_mem_cons.mpr ⟨⟨s_iconst dL_law_2147 (by decide +kernel), s_mo_push _ _⟩, (List.forall_mem_cons.mpr ⟨⟨s_iadd dL_law_2148, s_mo_bin _ _⟩, (List.forall_mem_cons.mpr ⟨⟨s_ialdO dL_law_2149, s_mo_ialdO _⟩, (List.forall_mem_cons.mpr ⟨⟨s_sV mk_291 mk_239 ok_239 (by decide +kernel) dL_law_2150 w_1669 w_1670 w_1671 (Or.inr ⟨8, _, _, rfl, rfl⟩), s_h0 mk_291⟩, (List.forall_mem_cons.mpr ⟨⟨s_stI dL_law_2153, s_mo_stI _ _⟩, (List.forall_mem_cons.mpr ⟨⟨s_ldAn dL_law_2155 rfl, s_mo_ldA _ _⟩, (List.forall_mem_cons.mpr ⟨⟨s_sV mk_291 mk_148 ok_148 (by decide +kernel) dL_law_2156 w_1203 w_1204 w_1205 (Or.inr ⟨8, _, _, rfl, rfl⟩), s_h0 mk_291⟩, (List.forall_mem_cons.mpr ⟨⟨s_ldI dL_law_2159, s_mo_ldI _ _⟩, (List.forall_mem_cons.mpr ⟨⟨s_iceq dL_law_2161 (by decide), s_mo_iceq _ _⟩, (List.forall_mem_cons.mpr ⟨⟨s_iconst dL_law_2164 (by decide +kernel), s_mo_push _ _⟩, (List.forall_mem_cons.mpr ⟨s_r2 mk_291 dL_law_2165, (List.forall_mem_cons.mpr ⟨⟨s_ldI dL_law_2166, s_mo_ldI _ _⟩, (List.forall_mem_cons.mpr ⟨⟨s_ifne dL_law_2168 (by decide), s_mo_ifne _ _⟩, (List.forall_mem_cons.mpr ⟨⟨s_ldAn dL_law_2171 rfl, s_mo_ldA _ _⟩, (List.forall_mem_cons.mpr ⟨⟨s_iconst dL_law_2172 (by decide +kernel), s_mo_push _ _⟩, (List.forall_mem_cons.mpr ⟨⟨s_lald dL_law_2173, s_mo_lald _⟩, (List.forall_mem_cons.mpr ⟨⟨s_ldI dL_law_2174, s_mo_ldI _ _⟩, (fun _ h => absurd h List.not_mem_nil)⟩)⟩)⟩)⟩)⟩)⟩)⟩)⟩)⟩)⟩)⟩)⟩)⟩)⟩)⟩)⟩)⟩)⟩)⟩)⟩)⟩)⟩)⟩)⟩)⟩)⟩)⟩)⟩)⟩)⟩)⟩)⟩)⟩)⟩)⟩)⟩)⟩)⟩)⟩)⟩)⟩)⟩)
set_option maxRecDepth 20000 in
theorem kb_291_34 : ∀ q ∈ tb_291_34, s_atx 291 yL_law cL_law q.1 q.2 := (List.forall_mem_cons.mpr ⟨⟨s_i2l dL_law_2176, s_mo_i2l _⟩, (List.forall_mem_cons.mpr ⟨⟨s_lcmp dL_law_2177, s_mo_lcmp _⟩, (List.forall_mem_cons.mpr ⟨⟨s_ifeq dL_law_2178 (by decide), s_mo_ifeq _ _⟩, (List.forall_mem_cons.mpr ⟨⟨s_iconst dL_law_2181 (by decide +kernel), s_mo_push _ _⟩, (List.forall_mem_cons.mpr ⟨s_r2 mk_291 dL_law_2182, (List.forall_mem_cons.mpr ⟨⟨s_goto dL_law_2183 (by decide), s_mo_goto _⟩, (List.forall_mem_cons.mpr ⟨⟨s_ldAn dL_law_2186 rfl, s_mo_ldA _ _⟩, (List.forall_mem_cons.mpr ⟨⟨s_sV mk_291 mk_132 ok_132 (by decide +kernel) dL_law_2187 w_388 w_389 w_390 (Or.inr ⟨7, _, _, rfl, rfl⟩), s_h0 mk_291⟩, (List.forall_mem_cons.mpr ⟨⟨s_ldAn dL_law_2190 rfl, s_mo_ldA _ _⟩, (List.forall_mem_cons.mpr ⟨⟨s_sV mk_291 mk_240 ok_240 (by decide +kernel) dL_law_2191 w_1678 w_1679 w_1680 (Or.inr ⟨8, _, _, rfl, rfl⟩), s_h0 mk_291⟩, (List.forall_mem_cons.mpr ⟨⟨s_iceq dL_law_2194 (by decide), s_mo_iceq _ _⟩, (List.forall_mem_cons.mpr ⟨⟨s_iconst dL_law_2197 (by decide +kernel), s_mo_push _ _⟩, (List.forall_mem_cons.mpr ⟨s_r2 mk_291 dL_law_2198, (List.forall_mem_cons.mpr ⟨⟨s_ldAn dL_law_2199 rfl, s_mo_ldA _ _⟩, (List.forall_mem_cons.mpr ⟨⟨s_ldAn dL_law_2200 rfl, s_mo_ldA _ _⟩, (List.forall_mem_cons.mpr ⟨⟨s_ldI dL_law_2201, s_mo_ldI _ _⟩, (List.forall_mem_cons.mpr ⟨⟨s_iconst dL_law_2203 (by decide +kernel), s_mo_push _ _⟩, (List.forall_mem_cons.mpr ⟨⟨s_iadd dL_law_2204, s_mo_bin _ _⟩, (List.forall_mem_cons.mpr ⟨⟨s_ialdO dL_law_2205, s_mo_ialdO _⟩, (List.forall_mem_cons.mpr ⟨⟨s_sV mk_291 mk_133 ok_133 (by decide +kernel) dL_law_2206 w_395 w_396 w_397 (Or.inr ⟨7, _, _, rfl, rfl⟩), s_h0 mk_291⟩, (List.forall_mem_cons.mpr ⟨⟨s_ldAn dL_law_2209 rfl, s_mo_ldA _ _⟩, (List.forall_mem_cons.mpr ⟨⟨s_ldAn dL_law_2210 rfl, s_mo_ldA _ _⟩, (List.forall_mem_cons.mpr ⟨⟨s_ldI dL_law_2211, s_mo_ldI _ _⟩, (List.forall_mem_cons.mpr ⟨⟨s_iconst dL_law_2213 (by decide +kernel), s_mo_push _ _⟩, (List.forall_mem_cons.mpr ⟨⟨s_iadd dL_law_2214, s_mo_bin _ _⟩, (List.forall_mem_cons.mpr ⟨⟨s_ialdO dL_law_2215, s_mo_ialdO _⟩, (List.forall_mem_cons.mpr ⟨⟨s_sV mk_291 mk_245 ok_245 (by decide +kernel) dL_law_2216 w_1689 w_1690 w_1691 (Or.inr ⟨8, _, _, rfl, rfl⟩), s_h0 mk_291⟩, (List.forall_mem_cons.mpr ⟨⟨s_iceq dL_law_2219 (by decide), s_mo_iceq _ _⟩, (List.forall_mem_cons.mpr ⟨⟨s_iconst dL_law_2222 (by decide +kernel), s_mo_push _ _⟩, (List.forall_mem_cons.mpr ⟨s_r2 mk_291 dL_law_2223, (List.forall_mem_cons.mpr ⟨⟨s_ldAn dL_law_2224 rfl, s_mo_ldA _ _⟩, (List.forall_mem_cons.mpr ⟨⟨s_sV mk_291 mk_134 ok_134 (by decide +kernel) dL_law_2225 w_410 w_411 w_412 (Or.inr ⟨7, _, _, rfl, rfl⟩), s_h0 mk_291⟩, (List.forall_mem_cons.mpr ⟨⟨s_ldAn dL_law_2228 rfl, s_mo_ldA _ _⟩, (List.forall_mem_cons.mpr ⟨⟨s_sV mk_291 mk_247 ok_247 (by decide +kernel) dL_law_2229 w_1705 w_1706 w_1707 (Or.inr ⟨8, _, _, rfl, rfl⟩), s_h0 mk_291⟩, (List.forall_mem_cons.mpr ⟨⟨s_iceq dL_law_2232 (by decide), s_mo_iceq _ _⟩, (List.forall_mem_cons.mpr ⟨⟨s_iconst dL_law_2235 (by decide +kernel), s_mo_push _ _⟩, (List.forall_mem_cons.mpr ⟨s_r2 mk_291 dL_law_2236, (List.forall_mem_cons.mpr ⟨⟨s_ldAn dL_law_2237 rfl, s_mo_ldA _ _⟩, (List.forall_mem_cons.mpr ⟨⟨s_sV mk_291 mk_135 ok_135 (by decide +kernel) dL_law_2238 w_427 w_428 w_429 (Or.inr ⟨7, _, _, rfl, rfl⟩), s_h0 mk_291⟩, (fun _ h => absurd h List.not_mem_nil)⟩)⟩)⟩)⟩)⟩)⟩)⟩)⟩)⟩)⟩)⟩)⟩)⟩)⟩)⟩)⟩)⟩)⟩)⟩)⟩)⟩)⟩)⟩)⟩)⟩)⟩)⟩)⟩)⟩)⟩)⟩)⟩)⟩)⟩)⟩)⟩)⟩)⟩)⟩)
set_option maxRecDepth 20000 in
theorem kb_291_35 : ∀ q ∈ tb_291_35, s_atx 291 yL_law cL_law q.1 q.2 := (List.forall_mem_cons.mpr ⟨⟨s_ldAn dL_law_2241 rfl, s_mo_ldA _ _⟩, (List.forall_mem_cons.mpr ⟨⟨s_sV mk_291 mk_249 ok_249 (by decide +kernel) dL_law_2242 w_1713 w_1714 w_1715 (Or.inr ⟨8, _, _, rfl, rfl⟩), s_h0 mk_291⟩, (List.forall_mem_cons.mpr ⟨⟨s_iceq dL_law_2245 (by decide), s_mo_iceq _ _⟩, (List.forall_mem_cons.mpr ⟨⟨s_iconst dL_law_2248 (by decide +kernel), s_mo_push _ _⟩, (List.forall_mem_cons.mpr ⟨s_r2 mk_291 dL_law_2249, (List.forall_mem_cons.mpr ⟨⟨s_ldAn dL_law_2250 rfl, s_mo_ldA _ _⟩, (List.forall_mem_cons.mpr ⟨⟨s_sV mk_291 mk_136 ok_136 (by decide +kernel) dL_law_2251 w_439 w_440 w_441 (Or.inr ⟨7, _, _, rfl, rfl⟩), s_h0 mk_291⟩, (List.forall_mem_cons.mpr ⟨⟨s_ldAn dL_law_2254 rfl, s_mo_ldA _ _⟩, (List.forall_mem_cons.mpr ⟨⟨s_sV mk_291 mk_250 ok_250 (by decide +kernel) dL_law_2255 w_1721 w_1722 w_1723 (Or.inr ⟨8, _, _, rfl, rfl⟩), s_h0 mk_291⟩, (List.forall_mem_cons.mpr ⟨⟨s_iceq dL_law_2258 (by decide), s_mo_iceq _ _⟩, (List.forall_mem_cons.mpr ⟨⟨s_iconst dL_law_2261 (by decide +kernel), s_mo_push _ _⟩, (List.forall_mem_cons.mpr ⟨s_r2 mk_291 dL_law_2262, (List.forall_mem_cons.mpr ⟨⟨s_ldAn dL_law_2263 rfl, s_mo_ldA _ _⟩, (List.forall_mem_cons.mpr ⟨⟨s_ldAn dL_law_2264 rfl, s_mo_ldA _ _⟩, (List.forall_mem_cons.mpr ⟨⟨s_ldI dL_law_2265, s_mo_ldI _ _⟩, (List.forall_mem_cons.mpr ⟨⟨s_iconst dL_law_2267 (by decide +kernel), s_mo_push _ _⟩, (List.forall_mem_cons.mpr ⟨⟨s_iadd dL_law_2268, s_mo_bin _ _⟩, (List.forall_mem_cons.mpr ⟨⟨s_ialdO dL_law_2269, s_mo_ialdO _⟩, (List.forall_mem_cons.mpr ⟨⟨s_ldAn dL_law_2270 rfl, s_mo_ldA _ _⟩, (List.forall_mem_cons.mpr ⟨⟨s_ldI dL_law_2271, s_mo_ldI _ _⟩, (List.forall_mem_cons.mpr ⟨⟨s_iconst dL_law_2273 (by decide +kernel), s_mo_push _ _⟩, (List.forall_mem_cons.mpr ⟨⟨s_iadd dL_law_2274, s_mo_bin _ _⟩, (List.forall_mem_cons.mpr ⟨⟨s_ialdO dL_law_2275, s_mo_ialdO _⟩, (List.forall_mem_cons.mpr ⟨⟨s_ldAn dL_law_2276 rfl, s_mo_ldA _ _⟩, (List.forall_mem_cons.mpr ⟨⟨s_sS mk_291 mk_290 ok_290 (by decide +kernel) dL_law_2277 w_1183 w_1184, s_h0 mk_291⟩, (List.forall_mem_cons.mpr ⟨⟨s_stI dL_law_2280, s_mo_stI _ _⟩, (List.forall_mem_cons.mpr ⟨⟨s_ldAn dL_law_2282 rfl, s_mo_ldA _ _⟩, (List.forall_mem_cons.mpr ⟨⟨s_ldAn dL_law_2283 rfl, s_mo_ldA _ _⟩, (List.forall_mem_cons.mpr ⟨⟨s_ldI dL_law_2284, s_mo_ldI _ _⟩, (List.forall_mem_cons.mpr ⟨⟨s_iconst dL_law_2286 (by decide +kernel), s_mo_push _ _⟩, (List.forall_mem_cons.mpr ⟨⟨s_iadd dL_law_2287, s_mo_bin _ _⟩, (List.forall_mem_cons.mpr ⟨⟨s_ialdO dL_law_2288, s_mo_ialdO _⟩, (List.forall_mem_cons.mpr ⟨⟨s_ldAn dL_law_2289 rfl, s_mo_ldA _ _⟩, (List.forall_mem_cons.mpr ⟨⟨s_ldI dL_law_2290, s_mo_ldI _ _⟩, (List.forall_mem_cons.mpr ⟨⟨s_iconst dL_law_2292 (by decide +kernel), s_mo_push _ _⟩, (List.forall_mem_cons.mpr ⟨⟨s_iadd dL_law_2293, s_mo_bin _ _⟩, (List.forall_mem_cons.mpr ⟨⟨s_ialdO dL_law_2294, s_mo_ialdO _⟩, (List.forall_mem_cons.mpr ⟨⟨s_sV mk_291 mk_252 ok_252 (by decide +kernel) dL_law_2295 w_1725 w_1726 w_1727 (Or.inr ⟨8, _, _, rfl, rfl⟩), s_h0 mk_291⟩, (List.forall_mem_cons.mpr ⟨⟨s_stI dL_law_2298, s_mo_stI _ _⟩, (List.forall_mem_cons.mpr ⟨⟨s_ldAn dL_law_2300 rfl, s_mo_ldA _ _⟩, (List.forall_mem_cons.mpr ⟨⟨s_sV mk_291 mk_148 ok_148 (by decide +kernel) dL_law_2301 w_1203 w_1204 w_1205 (Or.inr ⟨8, _, _, rfl, rfl⟩), s_h0 mk_291⟩, (fun _ h => absurd h List.not_mem_nil)⟩)⟩)⟩)⟩)⟩)⟩)⟩)⟩)⟩)⟩)⟩)⟩)⟩)⟩)⟩)⟩)⟩)⟩)⟩)⟩)⟩)⟩)⟩)⟩)⟩)⟩)⟩)⟩)⟩)⟩)⟩)⟩)⟩)⟩)⟩)⟩)⟩)⟩)⟩)⟩)⟩)
set_option maxRecDepth 20000 in
theorem kb_291_36 : ∀ q ∈ tb_291_36, s_atx 291 yL_law cL_law q.1 q.2 := (List.forall_mem_cons.mpr ⟨⟨s_ldI dL_law_2304, s_mo_ldI _ _⟩, (List.forall_mem_cons.mpr ⟨⟨s_iceq dL_law_2306 (by decide), s_mo_iceq _ _⟩, (List.forall_mem_cons.mpr ⟨⟨s_iconst dL_law_2309 (by decide +kernel), s_mo_push _ _⟩, (List.forall_mem_cons.mpr ⟨s_r2 mk_291 dL_law_2310, (List.forall_mem_cons.mpr ⟨⟨s_ldI dL_law_2311, s_mo_ldI _ _⟩, (List.forall_mem_cons.mpr ⟨⟨s_ifne dL_law_2313 (by decide), s_mo_ifne _ _⟩, (List.forall_mem_cons.mpr ⟨⟨s_ldAn dL_law_2316 rfl, s_mo_ldA _ _⟩, (List.forall_mem_cons.mpr ⟨⟨s_iconst dL_law_2317 (by decide +kernel), s_mo_push _ _⟩, (List.forall_mem_cons.mpr ⟨⟨s_lald dL_law_2318, s_mo_lald _⟩, (List.forall_mem_cons.mpr ⟨⟨s_ldI dL_law_2319, s_mo_ldI _ _⟩, (List.forall_mem_cons.mpr ⟨⟨s_i2l dL_law_2321, s_mo_i2l _⟩, (List.forall_mem_cons.mpr ⟨⟨s_lcmp dL_law_2322, s_mo_lcmp _⟩, (List.forall_mem_cons.mpr ⟨⟨s_ifeq dL_law_2323 (by decide), s_mo_ifeq _ _⟩, (List.forall_mem_cons.mpr ⟨⟨s_iconst dL_law_2326 (by decide +kernel), s_mo_push _ _⟩, (List.forall_mem_cons.mpr ⟨s_r2 mk_291 dL_law_2327, (List.forall_mem_cons.mpr ⟨⟨s_goto dL_law_2328 (by decide), s_mo_goto _⟩, (List.forall_mem_cons.mpr ⟨⟨s_ldAn dL_law_2331 rfl, s_mo_ldA _ _⟩, (List.forall_mem_cons.mpr ⟨⟨s_sV mk_291 mk_138 ok_138 (by decide +kernel) dL_law_2332 w_448 w_449 w_450 (Or.inr ⟨7, _, _, rfl, rfl⟩), s_h0 mk_291⟩, (List.forall_mem_cons.mpr ⟨⟨s_ldAn dL_law_2335 rfl, s_mo_ldA _ _⟩, (List.forall_mem_cons.mpr ⟨⟨s_sV mk_291 mk_200 ok_200 (by decide +kernel) dL_law_2336 w_1483 w_1484 w_1485 (Or.inr ⟨8, _, _, rfl, rfl⟩), s_h0 mk_291⟩, (List.forall_mem_cons.mpr ⟨⟨s_iceq dL_law_2339 (by decide), s_mo_iceq _ _⟩, (List.forall_mem_cons.mpr ⟨⟨s_iconst dL_law_2342 (by decide +kernel), s_mo_push _ _⟩, (List.forall_mem_cons.mpr ⟨s_r2 mk_291 dL_law_2343, (List.forall_mem_cons.mpr ⟨⟨s_ldAn dL_law_2344 rfl, s_mo_ldA _ _⟩, (List.forall_mem_cons.mpr ⟨⟨s_sV mk_291 mk_139 ok_139 (by decide +kernel) dL_law_2345 w_456 w_457 w_458 (Or.inr ⟨7, _, _, rfl, rfl⟩), s_h0 mk_291⟩, (List.forall_mem_cons.mpr ⟨⟨s_ldAn dL_law_2348 rfl, s_mo_ldA _ _⟩, (List.forall_mem_cons.mpr ⟨⟨s_sV mk_291 mk_153 ok_153 (by decide +kernel) dL_law_2349 w_1303 w_1304 w_1305 (Or.inr ⟨8, _, _, rfl, rfl⟩), s_h0 mk_291⟩, (List.forall_mem_cons.mpr ⟨⟨s_goto dL_law_2352 (by decide), s_mo_goto _⟩, (List.forall_mem_cons.mpr ⟨⟨s_ldAn dL_law_2355 rfl, s_mo_ldA _ _⟩, (List.forall_mem_cons.mpr ⟨⟨s_sV mk_291 mk_140 ok_140 (by decide +kernel) dL_law_2356 w_470 w_471 w_472 (Or.inr ⟨7, _, _, rfl, rfl⟩), s_h0 mk_291⟩, (List.forall_mem_cons.mpr ⟨⟨s_ldAn dL_law_2359 rfl, s_mo_ldA _ _⟩, (List.forall_mem_cons.mpr ⟨⟨s_sV mk_291 mk_154 ok_154 (by decide +kernel) dL_law_2360 w_1307 w_1308 w_1309 (Or.inr ⟨8, _, _, rfl, rfl⟩), s_h0 mk_291⟩, (List.forall_mem_cons.mpr ⟨⟨s_iceq dL_law_2363 (by decide), s_mo_iceq _ _⟩, (List.forall_mem_cons.mpr ⟨⟨s_iconst dL_law_2366 (by decide +kernel), s_mo_push _ _⟩, (List.forall_mem_cons.mpr ⟨s_r2 mk_291 dL_law_2367, (fun _ h => absurd h List.not_mem_nil)⟩)⟩)⟩)⟩)⟩)⟩)⟩)⟩)⟩)⟩)⟩)⟩)⟩)⟩)⟩)⟩)⟩)⟩)⟩)⟩)⟩)⟩)⟩)⟩)⟩)⟩)⟩)⟩)⟩)⟩)⟩)⟩)⟩)⟩)⟩)
set_option maxRecDepth 20000 in
theorem kb_291_37 : ∀ q ∈ tb_291_37, s_atx 291 yL_law cL_law q.1 q.2 := (List.forall_mem_cons.mpr ⟨⟨s_ldAn dL_law_2368 rfl, s_mo_ldA _ _⟩, (List.forall_mem_cons.mpr ⟨⟨s_ldAn dL_law_2369 rfl, s_mo_ldA _ _⟩, (List.forall_mem_cons.mpr ⟨⟨s_ldI dL_law_2370, s_mo_ldI _ _⟩, (List.forall_mem_cons.mpr ⟨⟨s_iconst dL_law_2372 (by decide +kernel), s_mo_push _ _⟩, (List.forall_mem_cons.mpr ⟨⟨s_iadd dL_law_2373, s_mo_bin _ _⟩, (List.forall_mem_cons.mpr ⟨⟨s_ialdO dL_law_2374, s_mo_ialdO _⟩, (List.forall_mem_cons.mpr ⟨⟨s_sV mk_291 mk_141 ok_141 (by decide +kernel) dL_law_2375 w_478 w_479 w_480 (Or.inr ⟨7, _, _, rfl, rfl⟩), s_h0 mk_291⟩, (List.forall_mem_cons.mpr ⟨⟨s_ldAn dL_law_2378 rfl, s_mo_ldA _ _⟩, (List.forall_mem_cons.mpr ⟨⟨s_ldAn dL_law_2379 rfl, s_mo_ldA _ _⟩, (List.forall_mem_cons.mpr ⟨⟨s_ldI dL_law_2380, s_mo_ldI _ _⟩, (List.forall_mem_cons.mpr ⟨⟨s_iconst dL_law_2382 (by decide +kernel), s_mo_push _ _⟩, (List.forall_mem_cons.mpr ⟨⟨s_iadd dL_law_2383, s_mo_bin _ _⟩, (List.forall_mem_cons.mpr ⟨⟨s_ialdO dL_law_2384, s_mo_ialdO _⟩, (List.forall_mem_cons.mpr ⟨⟨s_sV mk_291 mk_253 ok_253 (by decide +kernel) dL_law_2385 w_1733 w_1734 w_1735 (Or.inr ⟨8, _, _, rfl, rfl⟩), s_h0 mk_291⟩, (List.forall_mem_cons.mpr ⟨⟨s_iceq dL_law_2388 (by decide), s_mo_iceq _ _⟩, (List.forall_mem_cons.mpr ⟨⟨s_iconst dL_law_2391 (by decide +kernel), s_mo_push _ _⟩, (List.forall_mem_cons.mpr ⟨s_r2 mk_291 dL_law_2392, (List.forall_mem_cons.mpr ⟨⟨s_inc dL_law_2393 (by decide +kernel), s_mo_inc _ _ _⟩, (List.forall_mem_cons.mpr ⟨⟨s_goto dL_law_2396 (by decide), s_mo_goto _⟩, (List.forall_mem_cons.mpr ⟨⟨s_iconst dL_law_2399 (by decide +kernel), s_mo_push _ _⟩, (List.forall_mem_cons.mpr ⟨s_r2 mk_291 dL_law_2400, (fun _ h => absurd h List.not_mem_nil)⟩)⟩)⟩)⟩)⟩)⟩)⟩)⟩)⟩)⟩)⟩)⟩)⟩)⟩)⟩)⟩)⟩)⟩)⟩)⟩)⟩)
theorem km_291 : ∀ t ∈ tm_291, s_tok 291 t := (List.forall_mem_cons.mpr ⟨s_lift mk_291 kb_291_0, (List.forall_mem_cons.mpr ⟨s_lift mk_291 kb_291_1, (List.forall_mem_cons.mpr ⟨s_lift mk_291 kb_291_2, (List.forall_mem_cons.mpr ⟨s_lift mk_291 kb_291_3, (List.forall_mem_cons.mpr ⟨s_lift mk_291 kb_291_4, (List.forall_mem_cons.mpr ⟨s_lift mk_291 kb_291_5, (List.forall_mem_cons.mpr ⟨s_lift mk_291 kb_291_6, (List.forall_mem_cons.mpr ⟨s_lift mk_291 kb_291_7, (List.forall_mem_cons.mpr ⟨s_lift mk_291 kb_291_8, (List.forall_mem_cons.mpr ⟨s_lift mk_291 kb_291_9, (List.forall_mem_cons.mpr ⟨s_lift mk_291 kb_291_10, (List.forall_mem_cons.mpr ⟨s_lift mk_291 kb_291_11, (List.forall_mem_cons.mpr ⟨s_lift mk_291 kb_291_12, (List.forall_mem_cons.mpr ⟨s_lift mk_291 kb_291_13, (List.forall_mem_cons.mpr ⟨s_lift mk_291 kb_291_14, (List.forall_mem_cons.mpr ⟨s_lift mk_291 kb_291_15, (List.forall_mem_cons.mpr ⟨s_lift mk_291 kb_291_16, (List.forall_mem_cons.mpr ⟨s_lift mk_291 kb_291_17, (List.forall_mem_cons.mpr ⟨s_lift mk_291 kb_291_18, (List.forall_mem_cons.mpr ⟨s_lift mk_291 kb_291_19, (List.forall_mem_cons.mpr ⟨s_lift mk_291 kb_291_20, (List.forall_mem_cons.mpr ⟨s_lift mk_291 kb_291_21, (List.forall_mem_cons.mpr ⟨s_lift mk_291 kb_291_22, (List.forall_mem_cons.mpr ⟨s_lift mk_291 kb_291_23, (List.forall_mem_cons.mpr ⟨s_lift mk_291 kb_291_24, (List.forall_mem_cons.mpr ⟨s_lift mk_291 kb_291_25, (List.forall_mem_cons.mpr ⟨s_lift mk_291 kb_291_26, (List.forall_mem_cons.mpr ⟨s_lift mk_291 kb_291_27, (List.forall_mem_cons.mpr ⟨s_lift mk_291 kb_291_28, (List.forall_mem_cons.mpr ⟨s_lift mk_291 kb_291_29, (List.forall_mem_cons.mpr ⟨s_lift mk_291 kb_291_30, (List.forall_mem_cons.mpr ⟨s_lift mk_291 kb_291_31, (List.forall_mem_cons.mpr ⟨s_lift mk_291 kb_291_32, (List.forall_mem_cons.mpr ⟨s_lift mk_291 kb_291_33, (List.forall_mem_cons.mpr ⟨s_lift mk_291 kb_291_34, (List.forall_mem_cons.mpr ⟨s_lift mk_291 kb_291_35, (List.forall_mem_cons.mpr ⟨s_lift mk_291 kb_291_36, (List.forall_mem_cons.mpr ⟨s_lift mk_291 kb_291_37, (fun _ h => absurd h List.not_mem_nil)⟩)⟩)⟩)⟩)⟩)⟩)⟩)⟩)⟩)⟩)⟩)⟩)⟩)⟩)⟩)⟩)⟩)⟩)⟩)⟩)⟩)⟩)⟩)⟩)⟩)⟩)⟩)⟩)⟩)⟩)⟩)⟩)⟩)⟩)⟩)⟩)⟩)⟩)
