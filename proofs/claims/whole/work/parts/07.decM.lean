theorem d_M_init_0 : decode m_M_init.2.1 0 = .ok (.aload_n 0, 1) := by decide +kernel
theorem d_M_init_1 : decode m_M_init.2.1 1 = .ok (.invokespecial 1, 3) := by decide +kernel
theorem d_M_init_4 : decode m_M_init.2.1 4 = .ok (.aload_n 0, 1) := by decide +kernel
theorem d_M_init_5 : decode m_M_init.2.1 5 = .ok (.iconst 0, 1) := by decide +kernel
theorem d_M_init_6 : decode m_M_init.2.1 6 = .ok (.putfield 7, 3) := by decide +kernel
theorem d_M_init_9 : decode m_M_init.2.1 9 = .ok (.aload_n 0, 1) := by decide +kernel
theorem d_M_init_10 : decode m_M_init.2.1 10 = .ok (.sipush 500, 3) := by decide +kernel
theorem d_M_init_13 : decode m_M_init.2.1 13 = .ok (.newarray .int, 2) := by decide +kernel
theorem d_M_init_15 : decode m_M_init.2.1 15 = .ok (.putfield 13, 3) := by decide +kernel
theorem d_M_init_18 : decode m_M_init.2.1 18 = .ok (.aload_n 0, 1) := by decide +kernel
theorem d_M_init_19 : decode m_M_init.2.1 19 = .ok (.iconst 0, 1) := by decide +kernel
theorem d_M_init_20 : decode m_M_init.2.1 20 = .ok (.putfield 17, 3) := by decide +kernel
theorem d_M_init_23 : decode m_M_init.2.1 23 = .ok (.aload_n 0, 1) := by decide +kernel
theorem d_M_init_24 : decode m_M_init.2.1 24 = .ok (.iconst 0, 1) := by decide +kernel
theorem d_M_init_25 : decode m_M_init.2.1 25 = .ok (.putfield 20, 3) := by decide +kernel
theorem d_M_init_28 : decode m_M_init.2.1 28 = .ok (.aload_n 0, 1) := by decide +kernel
theorem d_M_init_29 : decode m_M_init.2.1 29 = .ok (.iconst 4, 1) := by decide +kernel
theorem d_M_init_30 : decode m_M_init.2.1 30 = .ok (.newarray .int, 2) := by decide +kernel
theorem d_M_init_32 : decode m_M_init.2.1 32 = .ok (.putfield 23, 3) := by decide +kernel
theorem d_M_init_35 : decode m_M_init.2.1 35 = .ok (.aload_n 0, 1) := by decide +kernel
theorem d_M_init_36 : decode m_M_init.2.1 36 = .ok (.iconst 0, 1) := by decide +kernel
theorem d_M_init_37 : decode m_M_init.2.1 37 = .ok (.putfield 26, 3) := by decide +kernel
theorem d_M_init_40 : decode m_M_init.2.1 40 = .ok (.aload_n 0, 1) := by decide +kernel
theorem d_M_init_41 : decode m_M_init.2.1 41 = .ok (.iconst 4, 1) := by decide +kernel
theorem d_M_init_42 : decode m_M_init.2.1 42 = .ok (.newarray .int, 2) := by decide +kernel
theorem d_M_init_44 : decode m_M_init.2.1 44 = .ok (.putfield 29, 3) := by decide +kernel
theorem d_M_init_47 : decode m_M_init.2.1 47 = .ok (.aload_n 0, 1) := by decide +kernel
theorem d_M_init_48 : decode m_M_init.2.1 48 = .ok (.bipush 32, 2) := by decide +kernel
theorem d_M_init_50 : decode m_M_init.2.1 50 = .ok (.newarray .int, 2) := by decide +kernel
theorem d_M_init_52 : decode m_M_init.2.1 52 = .ok (.putfield 32, 3) := by decide +kernel
theorem d_M_init_55 : decode m_M_init.2.1 55 = .ok (.aload_n 0, 1) := by decide +kernel
theorem d_M_init_56 : decode m_M_init.2.1 56 = .ok (.bipush 32, 2) := by decide +kernel
theorem d_M_init_58 : decode m_M_init.2.1 58 = .ok (.newarray .int, 2) := by decide +kernel
theorem d_M_init_60 : decode m_M_init.2.1 60 = .ok (.putfield 35, 3) := by decide +kernel
theorem d_M_init_63 : decode m_M_init.2.1 63 = .ok (.aload_n 0, 1) := by decide +kernel
theorem d_M_init_64 : decode m_M_init.2.1 64 = .ok (.bipush 32, 2) := by decide +kernel
theorem d_M_init_66 : decode m_M_init.2.1 66 = .ok (.newarray .int, 2) := by decide +kernel
theorem d_M_init_68 : decode m_M_init.2.1 68 = .ok (.putfield 38, 3) := by decide +kernel
theorem d_M_init_71 : decode m_M_init.2.1 71 = .ok (.aload_n 0, 1) := by decide +kernel
theorem d_M_init_72 : decode m_M_init.2.1 72 = .ok (.bipush 32, 2) := by decide +kernel
theorem d_M_init_74 : decode m_M_init.2.1 74 = .ok (.newarray .int, 2) := by decide +kernel
theorem d_M_init_76 : decode m_M_init.2.1 76 = .ok (.putfield 41, 3) := by decide +kernel
theorem d_M_init_79 : decode m_M_init.2.1 79 = .ok (.aload_n 0, 1) := by decide +kernel
theorem d_M_init_80 : decode m_M_init.2.1 80 = .ok (.bipush 32, 2) := by decide +kernel
theorem d_M_init_82 : decode m_M_init.2.1 82 = .ok (.newarray .int, 2) := by decide +kernel
theorem d_M_init_84 : decode m_M_init.2.1 84 = .ok (.putfield 44, 3) := by decide +kernel
theorem d_M_init_87 : decode m_M_init.2.1 87 = .ok (.aload_n 0, 1) := by decide +kernel
theorem d_M_init_88 : decode m_M_init.2.1 88 = .ok (.bipush 32, 2) := by decide +kernel
theorem d_M_init_90 : decode m_M_init.2.1 90 = .ok (.newarray .int, 2) := by decide +kernel
theorem d_M_init_92 : decode m_M_init.2.1 92 = .ok (.putfield 47, 3) := by decide +kernel
theorem d_M_init_95 : decode m_M_init.2.1 95 = .ok (.aload_n 0, 1) := by decide +kernel
theorem d_M_init_96 : decode m_M_init.2.1 96 = .ok (.bipush 32, 2) := by decide +kernel
theorem d_M_init_98 : decode m_M_init.2.1 98 = .ok (.newarray .int, 2) := by decide +kernel
theorem d_M_init_100 : decode m_M_init.2.1 100 = .ok (.putfield 50, 3) := by decide +kernel
theorem d_M_init_103 : decode m_M_init.2.1 103 = .ok (.aload_n 0, 1) := by decide +kernel
theorem d_M_init_104 : decode m_M_init.2.1 104 = .ok (.bipush 32, 2) := by decide +kernel
theorem d_M_init_106 : decode m_M_init.2.1 106 = .ok (.newarray .int, 2) := by decide +kernel
theorem d_M_init_108 : decode m_M_init.2.1 108 = .ok (.putfield 53, 3) := by decide +kernel
theorem d_M_init_111 : decode m_M_init.2.1 111 = .ok (.aload_n 0, 1) := by decide +kernel
theorem d_M_init_112 : decode m_M_init.2.1 112 = .ok (.bipush 32, 2) := by decide +kernel
theorem d_M_init_114 : decode m_M_init.2.1 114 = .ok (.newarray .int, 2) := by decide +kernel
theorem d_M_init_116 : decode m_M_init.2.1 116 = .ok (.putfield 56, 3) := by decide +kernel
theorem d_M_init_119 : decode m_M_init.2.1 119 = .ok (.aload_n 0, 1) := by decide +kernel
theorem d_M_init_120 : decode m_M_init.2.1 120 = .ok (.iconst 4, 1) := by decide +kernel
theorem d_M_init_121 : decode m_M_init.2.1 121 = .ok (.newarray .int, 2) := by decide +kernel
theorem d_M_init_123 : decode m_M_init.2.1 123 = .ok (.putfield 59, 3) := by decide +kernel
theorem d_M_init_126 : decode m_M_init.2.1 126 = .ok (.aload_n 0, 1) := by decide +kernel
theorem d_M_init_127 : decode m_M_init.2.1 127 = .ok (.bipush 32, 2) := by decide +kernel
theorem d_M_init_129 : decode m_M_init.2.1 129 = .ok (.newarray .int, 2) := by decide +kernel
theorem d_M_init_131 : decode m_M_init.2.1 131 = .ok (.putfield 62, 3) := by decide +kernel
theorem d_M_init_134 : decode m_M_init.2.1 134 = .ok (.aload_n 0, 1) := by decide +kernel
theorem d_M_init_135 : decode m_M_init.2.1 135 = .ok (.bipush 32, 2) := by decide +kernel
theorem d_M_init_137 : decode m_M_init.2.1 137 = .ok (.newarray .int, 2) := by decide +kernel
theorem d_M_init_139 : decode m_M_init.2.1 139 = .ok (.putfield 65, 3) := by decide +kernel
theorem d_M_init_142 : decode m_M_init.2.1 142 = .ok (.aload_n 0, 1) := by decide +kernel
theorem d_M_init_143 : decode m_M_init.2.1 143 = .ok (.bipush 32, 2) := by decide +kernel
theorem d_M_init_145 : decode m_M_init.2.1 145 = .ok (.newarray .int, 2) := by decide +kernel
theorem d_M_init_147 : decode m_M_init.2.1 147 = .ok (.putfield 68, 3) := by decide +kernel
theorem d_M_init_150 : decode m_M_init.2.1 150 = .ok (.aload_n 0, 1) := by decide +kernel
theorem d_M_init_151 : decode m_M_init.2.1 151 = .ok (.iconst 0, 1) := by decide +kernel
theorem d_M_init_152 : decode m_M_init.2.1 152 = .ok (.putfield 71, 3) := by decide +kernel
theorem d_M_init_155 : decode m_M_init.2.1 155 = .ok (.aload_n 0, 1) := by decide +kernel
theorem d_M_init_156 : decode m_M_init.2.1 156 = .ok (.iconst (-1), 1) := by decide +kernel
theorem d_M_init_157 : decode m_M_init.2.1 157 = .ok (.putfield 74, 3) := by decide +kernel
theorem d_M_init_160 : decode m_M_init.2.1 160 = .ok (.aload_n 0, 1) := by decide +kernel
theorem d_M_init_161 : decode m_M_init.2.1 161 = .ok (.iconst 0, 1) := by decide +kernel
theorem d_M_init_162 : decode m_M_init.2.1 162 = .ok (.putfield 77, 3) := by decide +kernel
theorem d_M_init_165 : decode m_M_init.2.1 165 = .ok (.aload_n 0, 1) := by decide +kernel
theorem d_M_init_166 : decode m_M_init.2.1 166 = .ok (.sipush 208, 3) := by decide +kernel
theorem d_M_init_169 : decode m_M_init.2.1 169 = .ok (.newarray .int, 2) := by decide +kernel
theorem d_M_init_171 : decode m_M_init.2.1 171 = .ok (.putfield 80, 3) := by decide +kernel
theorem d_M_init_174 : decode m_M_init.2.1 174 = .ok (.aload_n 0, 1) := by decide +kernel
theorem d_M_init_175 : decode m_M_init.2.1 175 = .ok (.iconst 0, 1) := by decide +kernel
theorem d_M_init_176 : decode m_M_init.2.1 176 = .ok (.putfield 83, 3) := by decide +kernel
theorem d_M_init_179 : decode m_M_init.2.1 179 = .ok (.aload_n 0, 1) := by decide +kernel
theorem d_M_init_180 : decode m_M_init.2.1 180 = .ok (.bipush 8, 2) := by decide +kernel
theorem d_M_init_182 : decode m_M_init.2.1 182 = .ok (.newarray .int, 2) := by decide +kernel
theorem d_M_init_184 : decode m_M_init.2.1 184 = .ok (.putfield 86, 3) := by decide +kernel
theorem d_M_init_187 : decode m_M_init.2.1 187 = .ok (.aload_n 0, 1) := by decide +kernel
theorem d_M_init_188 : decode m_M_init.2.1 188 = .ok (.bipush 8, 2) := by decide +kernel
theorem d_M_init_190 : decode m_M_init.2.1 190 = .ok (.newarray .int, 2) := by decide +kernel
theorem d_M_init_192 : decode m_M_init.2.1 192 = .ok (.putfield 89, 3) := by decide +kernel
theorem d_M_init_195 : decode m_M_init.2.1 195 = .ok (.aload_n 0, 1) := by decide +kernel
theorem d_M_init_196 : decode m_M_init.2.1 196 = .ok (.bipush 8, 2) := by decide +kernel
theorem d_M_init_198 : decode m_M_init.2.1 198 = .ok (.newarray .int, 2) := by decide +kernel
theorem d_M_init_200 : decode m_M_init.2.1 200 = .ok (.putfield 92, 3) := by decide +kernel
theorem d_M_init_203 : decode m_M_init.2.1 203 = .ok (.aload_n 0, 1) := by decide +kernel
theorem d_M_init_204 : decode m_M_init.2.1 204 = .ok (.iconst (-1), 1) := by decide +kernel
theorem d_M_init_205 : decode m_M_init.2.1 205 = .ok (.putfield 95, 3) := by decide +kernel
theorem d_M_init_208 : decode m_M_init.2.1 208 = .ok (.aload_n 0, 1) := by decide +kernel
theorem d_M_init_209 : decode m_M_init.2.1 209 = .ok (.iconst 0, 1) := by decide +kernel
theorem d_M_init_210 : decode m_M_init.2.1 210 = .ok (.putfield 98, 3) := by decide +kernel
theorem d_M_init_213 : decode m_M_init.2.1 213 = .ok (.aload_n 0, 1) := by decide +kernel
theorem d_M_init_214 : decode m_M_init.2.1 214 = .ok (.bipush 8, 2) := by decide +kernel
theorem d_M_init_216 : decode m_M_init.2.1 216 = .ok (.newarray .int, 2) := by decide +kernel
theorem d_M_init_218 : decode m_M_init.2.1 218 = .ok (.putfield 101, 3) := by decide +kernel
theorem d_M_init_221 : decode m_M_init.2.1 221 = .ok (.aload_n 0, 1) := by decide +kernel
theorem d_M_init_222 : decode m_M_init.2.1 222 = .ok (.iconst 0, 1) := by decide +kernel
theorem d_M_init_223 : decode m_M_init.2.1 223 = .ok (.putfield 104, 3) := by decide +kernel
theorem d_M_init_226 : decode m_M_init.2.1 226 = .ok (.aload_n 0, 1) := by decide +kernel
theorem d_M_init_227 : decode m_M_init.2.1 227 = .ok (.bipush 64, 2) := by decide +kernel
theorem d_M_init_229 : decode m_M_init.2.1 229 = .ok (.newarray .int, 2) := by decide +kernel
theorem d_M_init_231 : decode m_M_init.2.1 231 = .ok (.putfield 107, 3) := by decide +kernel
theorem d_M_init_234 : decode m_M_init.2.1 234 = .ok (.aload_n 0, 1) := by decide +kernel
theorem d_M_init_235 : decode m_M_init.2.1 235 = .ok (.iconst 0, 1) := by decide +kernel
theorem d_M_init_236 : decode m_M_init.2.1 236 = .ok (.putfield 110, 3) := by decide +kernel
theorem d_M_init_239 : decode m_M_init.2.1 239 = .ok (.aload_n 0, 1) := by decide +kernel
theorem d_M_init_240 : decode m_M_init.2.1 240 = .ok (.bipush 20, 2) := by decide +kernel
theorem d_M_init_242 : decode m_M_init.2.1 242 = .ok (.newarray .int, 2) := by decide +kernel
theorem d_M_init_244 : decode m_M_init.2.1 244 = .ok (.putfield 113, 3) := by decide +kernel
theorem d_M_init_247 : decode m_M_init.2.1 247 = .ok (.return_, 1) := by decide +kernel
theorem d_M_thrown_0 : decode m_M_thrown.2.1 0 = .ok (.aload_n 0, 1) := by decide +kernel
theorem d_M_thrown_1 : decode m_M_thrown.2.1 1 = .ok (.getfield 7, 3) := by decide +kernel
theorem d_M_thrown_4 : decode m_M_thrown.2.1 4 = .ok (.ireturn, 1) := by decide +kernel
theorem d_M_sign_0 : decode m_M_sign.2.1 0 = .ok (.aload_n 0, 1) := by decide +kernel
theorem d_M_sign_1 : decode m_M_sign.2.1 1 = .ok (.iload_n 1, 1) := by decide +kernel
theorem d_M_sign_2 : decode m_M_sign.2.1 2 = .ok (.bipush 10, 2) := by decide +kernel
theorem d_M_sign_4 : decode m_M_sign.2.1 4 = .ok (.if_icmp .eq 18, 3) := by decide +kernel
theorem d_M_sign_7 : decode m_M_sign.2.1 7 = .ok (.iload_n 1, 1) := by decide +kernel
theorem d_M_sign_8 : decode m_M_sign.2.1 8 = .ok (.bipush 32, 2) := by decide +kernel
theorem d_M_sign_10 : decode m_M_sign.2.1 10 = .ok (.bipush 126, 2) := by decide +kernel
theorem d_M_sign_12 : decode m_M_sign.2.1 12 = .ok (.invokestatic 156, 3) := by decide +kernel
theorem d_M_sign_15 : decode m_M_sign.2.1 15 = .ok (.ifCond .eq 7, 3) := by decide +kernel
theorem d_M_sign_18 : decode m_M_sign.2.1 18 = .ok (.iconst 1, 1) := by decide +kernel
theorem d_M_sign_19 : decode m_M_sign.2.1 19 = .ok (.goto 18, 3) := by decide +kernel
theorem d_M_sign_22 : decode m_M_sign.2.1 22 = .ok (.aload_n 0, 1) := by decide +kernel
theorem d_M_sign_23 : decode m_M_sign.2.1 23 = .ok (.getfield 17, 3) := by decide +kernel
theorem d_M_sign_26 : decode m_M_sign.2.1 26 = .ok (.sipush 500, 3) := by decide +kernel
theorem d_M_sign_29 : decode m_M_sign.2.1 29 = .ok (.if_icmp .ne 7, 3) := by decide +kernel
theorem d_M_sign_32 : decode m_M_sign.2.1 32 = .ok (.iconst 2, 1) := by decide +kernel
theorem d_M_sign_33 : decode m_M_sign.2.1 33 = .ok (.goto 4, 3) := by decide +kernel
theorem d_M_sign_36 : decode m_M_sign.2.1 36 = .ok (.iconst 0, 1) := by decide +kernel
theorem d_M_sign_37 : decode m_M_sign.2.1 37 = .ok (.putfield 7, 3) := by decide +kernel
theorem d_M_sign_40 : decode m_M_sign.2.1 40 = .ok (.aload_n 0, 1) := by decide +kernel
theorem d_M_sign_41 : decode m_M_sign.2.1 41 = .ok (.getfield 7, 3) := by decide +kernel
theorem d_M_sign_44 : decode m_M_sign.2.1 44 = .ok (.ifCond .eq 4, 3) := by decide +kernel
theorem d_M_sign_47 : decode m_M_sign.2.1 47 = .ok (.return_, 1) := by decide +kernel
theorem d_M_sign_48 : decode m_M_sign.2.1 48 = .ok (.aload_n 0, 1) := by decide +kernel
theorem d_M_sign_49 : decode m_M_sign.2.1 49 = .ok (.getfield 13, 3) := by decide +kernel
theorem d_M_sign_52 : decode m_M_sign.2.1 52 = .ok (.aload_n 0, 1) := by decide +kernel
theorem d_M_sign_53 : decode m_M_sign.2.1 53 = .ok (.getfield 17, 3) := by decide +kernel
theorem d_M_sign_56 : decode m_M_sign.2.1 56 = .ok (.iload_n 1, 1) := by decide +kernel
theorem d_M_sign_57 : decode m_M_sign.2.1 57 = .ok (.iastore, 1) := by decide +kernel
theorem d_M_sign_58 : decode m_M_sign.2.1 58 = .ok (.aload_n 0, 1) := by decide +kernel
theorem d_M_sign_59 : decode m_M_sign.2.1 59 = .ok (.dup, 1) := by decide +kernel
theorem d_M_sign_60 : decode m_M_sign.2.1 60 = .ok (.getfield 17, 3) := by decide +kernel
theorem d_M_sign_63 : decode m_M_sign.2.1 63 = .ok (.iconst 1, 1) := by decide +kernel
theorem d_M_sign_64 : decode m_M_sign.2.1 64 = .ok (.iadd, 1) := by decide +kernel
theorem d_M_sign_65 : decode m_M_sign.2.1 65 = .ok (.putfield 17, 3) := by decide +kernel
theorem d_M_sign_68 : decode m_M_sign.2.1 68 = .ok (.return_, 1) := by decide +kernel
theorem d_M_not_0 : decode m_M_not.2.1 0 = .ok (.iload_n 0, 1) := by decide +kernel
theorem d_M_not_1 : decode m_M_not.2.1 1 = .ok (.iload_n 1, 1) := by decide +kernel
theorem d_M_not_2 : decode m_M_not.2.1 2 = .ok (.if_icmp .lt 8, 3) := by decide +kernel
theorem d_M_not_5 : decode m_M_not.2.1 5 = .ok (.iload_n 0, 1) := by decide +kernel
theorem d_M_not_6 : decode m_M_not.2.1 6 = .ok (.iload_n 2, 1) := by decide +kernel
theorem d_M_not_7 : decode m_M_not.2.1 7 = .ok (.if_icmp .le 7, 3) := by decide +kernel
theorem d_M_not_10 : decode m_M_not.2.1 10 = .ok (.iconst 1, 1) := by decide +kernel
theorem d_M_not_11 : decode m_M_not.2.1 11 = .ok (.goto 4, 3) := by decide +kernel
theorem d_M_not_14 : decode m_M_not.2.1 14 = .ok (.iconst 0, 1) := by decide +kernel
theorem d_M_not_15 : decode m_M_not.2.1 15 = .ok (.ireturn, 1) := by decide +kernel
theorem d_M_read_0 : decode m_M_read.2.1 0 = .ok (.aload_n 0, 1) := by decide +kernel
theorem d_M_read_1 : decode m_M_read.2.1 1 = .ok (.iload_n 1, 1) := by decide +kernel
theorem d_M_read_2 : decode m_M_read.2.1 2 = .ok (.iconst 0, 1) := by decide +kernel
theorem d_M_read_3 : decode m_M_read.2.1 3 = .ok (.sipush 1000, 3) := by decide +kernel
theorem d_M_read_6 : decode m_M_read.2.1 6 = .ok (.invokestatic 156, 3) := by decide +kernel
theorem d_M_read_9 : decode m_M_read.2.1 9 = .ok (.ifCond .eq 7, 3) := by decide +kernel
theorem d_M_read_12 : decode m_M_read.2.1 12 = .ok (.iconst 1, 1) := by decide +kernel
theorem d_M_read_13 : decode m_M_read.2.1 13 = .ok (.goto 4, 3) := by decide +kernel
theorem d_M_read_16 : decode m_M_read.2.1 16 = .ok (.iconst 0, 1) := by decide +kernel
theorem d_M_read_17 : decode m_M_read.2.1 17 = .ok (.putfield 7, 3) := by decide +kernel
theorem d_M_read_20 : decode m_M_read.2.1 20 = .ok (.aload_n 0, 1) := by decide +kernel
theorem d_M_read_21 : decode m_M_read.2.1 21 = .ok (.getfield 7, 3) := by decide +kernel
theorem d_M_read_24 : decode m_M_read.2.1 24 = .ok (.ifCond .eq 5, 3) := by decide +kernel
theorem d_M_read_27 : decode m_M_read.2.1 27 = .ok (.iconst 0, 1) := by decide +kernel
theorem d_M_read_28 : decode m_M_read.2.1 28 = .ok (.ireturn, 1) := by decide +kernel
theorem d_M_read_29 : decode m_M_read.2.1 29 = .ok (.aload_n 0, 1) := by decide +kernel
theorem d_M_read_30 : decode m_M_read.2.1 30 = .ok (.invokevirtual 160, 3) := by decide +kernel
theorem d_M_read_33 : decode m_M_read.2.1 33 = .ok (.aload_n 0, 1) := by decide +kernel
theorem d_M_read_34 : decode m_M_read.2.1 34 = .ok (.getfield 74, 3) := by decide +kernel
theorem d_M_read_37 : decode m_M_read.2.1 37 = .ok (.ifCond .lt 15, 3) := by decide +kernel
theorem d_M_read_40 : decode m_M_read.2.1 40 = .ok (.aload_n 0, 1) := by decide +kernel
theorem d_M_read_41 : decode m_M_read.2.1 41 = .ok (.iconst 0, 1) := by decide +kernel
theorem d_M_read_42 : decode m_M_read.2.1 42 = .ok (.putfield 17, 3) := by decide +kernel
theorem d_M_read_45 : decode m_M_read.2.1 45 = .ok (.iconst (-1), 1) := by decide +kernel
theorem d_M_read_46 : decode m_M_read.2.1 46 = .ok (.aload_n 0, 1) := by decide +kernel
theorem d_M_read_47 : decode m_M_read.2.1 47 = .ok (.getfield 74, 3) := by decide +kernel
theorem d_M_read_50 : decode m_M_read.2.1 50 = .ok (.isub, 1) := by decide +kernel
theorem d_M_read_51 : decode m_M_read.2.1 51 = .ok (.ireturn, 1) := by decide +kernel
theorem d_M_read_52 : decode m_M_read.2.1 52 = .ok (.aload_n 0, 1) := by decide +kernel
theorem d_M_read_53 : decode m_M_read.2.1 53 = .ok (.aload_n 0, 1) := by decide +kernel
theorem d_M_read_54 : decode m_M_read.2.1 54 = .ok (.getfield 77, 3) := by decide +kernel
theorem d_M_read_57 : decode m_M_read.2.1 57 = .ok (.bipush 8, 2) := by decide +kernel
theorem d_M_read_59 : decode m_M_read.2.1 59 = .ok (.if_icmp .gt 20, 3) := by decide +kernel
theorem d_M_read_62 : decode m_M_read.2.1 62 = .ok (.aload_n 0, 1) := by decide +kernel
theorem d_M_read_63 : decode m_M_read.2.1 63 = .ok (.getfield 83, 3) := by decide +kernel
theorem d_M_read_66 : decode m_M_read.2.1 66 = .ok (.bipush 8, 2) := by decide +kernel
theorem d_M_read_68 : decode m_M_read.2.1 68 = .ok (.if_icmp .gt 11, 3) := by decide +kernel
theorem d_M_read_71 : decode m_M_read.2.1 71 = .ok (.aload_n 0, 1) := by decide +kernel
theorem d_M_read_72 : decode m_M_read.2.1 72 = .ok (.getfield 20, 3) := by decide +kernel
theorem d_M_read_75 : decode m_M_read.2.1 75 = .ok (.iconst 4, 1) := by decide +kernel
theorem d_M_read_76 : decode m_M_read.2.1 76 = .ok (.if_icmp .ne 7, 3) := by decide +kernel
theorem d_M_read_79 : decode m_M_read.2.1 79 = .ok (.iconst 2, 1) := by decide +kernel
theorem d_M_read_80 : decode m_M_read.2.1 80 = .ok (.goto 4, 3) := by decide +kernel
theorem d_M_read_83 : decode m_M_read.2.1 83 = .ok (.iconst 0, 1) := by decide +kernel
theorem d_M_read_84 : decode m_M_read.2.1 84 = .ok (.putfield 7, 3) := by decide +kernel
theorem d_M_read_87 : decode m_M_read.2.1 87 = .ok (.aload_n 0, 1) := by decide +kernel
theorem d_M_read_88 : decode m_M_read.2.1 88 = .ok (.iconst 0, 1) := by decide +kernel
theorem d_M_read_89 : decode m_M_read.2.1 89 = .ok (.putfield 17, 3) := by decide +kernel
theorem d_M_read_92 : decode m_M_read.2.1 92 = .ok (.aload_n 0, 1) := by decide +kernel
theorem d_M_read_93 : decode m_M_read.2.1 93 = .ok (.getfield 7, 3) := by decide +kernel
theorem d_M_read_96 : decode m_M_read.2.1 96 = .ok (.ifCond .eq 5, 3) := by decide +kernel
theorem d_M_read_99 : decode m_M_read.2.1 99 = .ok (.iconst 0, 1) := by decide +kernel
theorem d_M_read_100 : decode m_M_read.2.1 100 = .ok (.ireturn, 1) := by decide +kernel
theorem d_M_read_101 : decode m_M_read.2.1 101 = .ok (.aload_n 0, 1) := by decide +kernel
theorem d_M_read_102 : decode m_M_read.2.1 102 = .ok (.iconst 0, 1) := by decide +kernel
theorem d_M_read_103 : decode m_M_read.2.1 103 = .ok (.putfield 98, 3) := by decide +kernel
theorem d_M_read_106 : decode m_M_read.2.1 106 = .ok (.aload_n 0, 1) := by decide +kernel
theorem d_M_read_107 : decode m_M_read.2.1 107 = .ok (.aload_n 0, 1) := by decide +kernel
theorem d_M_read_108 : decode m_M_read.2.1 108 = .ok (.getfield 20, 3) := by decide +kernel
theorem d_M_read_111 : decode m_M_read.2.1 111 = .ok (.iload_n 1, 1) := by decide +kernel
theorem d_M_read_112 : decode m_M_read.2.1 112 = .ok (.invokevirtual 163, 3) := by decide +kernel
theorem d_M_read_115 : decode m_M_read.2.1 115 = .ok (.aload_n 0, 1) := by decide +kernel
theorem d_M_read_116 : decode m_M_read.2.1 116 = .ok (.dup, 1) := by decide +kernel
theorem d_M_read_117 : decode m_M_read.2.1 117 = .ok (.getfield 20, 3) := by decide +kernel
theorem d_M_read_120 : decode m_M_read.2.1 120 = .ok (.iconst 1, 1) := by decide +kernel
theorem d_M_read_121 : decode m_M_read.2.1 121 = .ok (.iadd, 1) := by decide +kernel
theorem d_M_read_122 : decode m_M_read.2.1 122 = .ok (.putfield 20, 3) := by decide +kernel
theorem d_M_read_125 : decode m_M_read.2.1 125 = .ok (.aload_n 0, 1) := by decide +kernel
theorem d_M_read_126 : decode m_M_read.2.1 126 = .ok (.getfield 20, 3) := by decide +kernel
theorem d_M_read_129 : decode m_M_read.2.1 129 = .ok (.ireturn, 1) := by decide +kernel
theorem d_M_readText_0 : decode m_M_readText.2.1 0 = .ok (.aload_n 0, 1) := by decide +kernel
theorem d_M_readText_1 : decode m_M_readText.2.1 1 = .ok (.iconst 0, 1) := by decide +kernel
theorem d_M_readText_2 : decode m_M_readText.2.1 2 = .ok (.putfield 71, 3) := by decide +kernel
theorem d_M_readText_5 : decode m_M_readText.2.1 5 = .ok (.aload_n 0, 1) := by decide +kernel
theorem d_M_readText_6 : decode m_M_readText.2.1 6 = .ok (.iconst (-1), 1) := by decide +kernel
theorem d_M_readText_7 : decode m_M_readText.2.1 7 = .ok (.putfield 74, 3) := by decide +kernel
theorem d_M_readText_10 : decode m_M_readText.2.1 10 = .ok (.aload_n 0, 1) := by decide +kernel
theorem d_M_readText_11 : decode m_M_readText.2.1 11 = .ok (.iconst 0, 1) := by decide +kernel
theorem d_M_readText_12 : decode m_M_readText.2.1 12 = .ok (.putfield 77, 3) := by decide +kernel
theorem d_M_readText_15 : decode m_M_readText.2.1 15 = .ok (.aload_n 0, 1) := by decide +kernel
theorem d_M_readText_16 : decode m_M_readText.2.1 16 = .ok (.iconst 0, 1) := by decide +kernel
theorem d_M_readText_17 : decode m_M_readText.2.1 17 = .ok (.putfield 83, 3) := by decide +kernel
theorem d_M_readText_20 : decode m_M_readText.2.1 20 = .ok (.aload_n 0, 1) := by decide +kernel
theorem d_M_readText_21 : decode m_M_readText.2.1 21 = .ok (.iconst (-1), 1) := by decide +kernel
theorem d_M_readText_22 : decode m_M_readText.2.1 22 = .ok (.putfield 95, 3) := by decide +kernel
theorem d_M_readText_25 : decode m_M_readText.2.1 25 = .ok (.aload_n 0, 1) := by decide +kernel
theorem d_M_readText_26 : decode m_M_readText.2.1 26 = .ok (.getfield 71, 3) := by decide +kernel
theorem d_M_readText_29 : decode m_M_readText.2.1 29 = .ok (.aload_n 0, 1) := by decide +kernel
theorem d_M_readText_30 : decode m_M_readText.2.1 30 = .ok (.getfield 17, 3) := by decide +kernel
theorem d_M_readText_33 : decode m_M_readText.2.1 33 = .ok (.if_icmp .ge 77, 3) := by decide +kernel
theorem d_M_readText_36 : decode m_M_readText.2.1 36 = .ok (.aload_n 0, 1) := by decide +kernel
theorem d_M_readText_37 : decode m_M_readText.2.1 37 = .ok (.getfield 74, 3) := by decide +kernel
theorem d_M_readText_40 : decode m_M_readText.2.1 40 = .ok (.ifCond .ge 70, 3) := by decide +kernel
theorem d_M_readText_43 : decode m_M_readText.2.1 43 = .ok (.aload_n 0, 1) := by decide +kernel
theorem d_M_readText_44 : decode m_M_readText.2.1 44 = .ok (.invokevirtual 116, 3) := by decide +kernel
theorem d_M_readText_47 : decode m_M_readText.2.1 47 = .ok (.istore_n 1, 1) := by decide +kernel
theorem d_M_readText_48 : decode m_M_readText.2.1 48 = .ok (.iload_n 1, 1) := by decide +kernel
theorem d_M_readText_49 : decode m_M_readText.2.1 49 = .ok (.bipush 65, 2) := by decide +kernel
theorem d_M_readText_51 : decode m_M_readText.2.1 51 = .ok (.if_icmp .lt 16, 3) := by decide +kernel
theorem d_M_readText_54 : decode m_M_readText.2.1 54 = .ok (.iload_n 1, 1) := by decide +kernel
theorem d_M_readText_55 : decode m_M_readText.2.1 55 = .ok (.bipush 90, 2) := by decide +kernel
theorem d_M_readText_57 : decode m_M_readText.2.1 57 = .ok (.if_icmp .gt 10, 3) := by decide +kernel
theorem d_M_readText_60 : decode m_M_readText.2.1 60 = .ok (.aload_n 0, 1) := by decide +kernel
theorem d_M_readText_61 : decode m_M_readText.2.1 61 = .ok (.invokevirtual 144, 3) := by decide +kernel
theorem d_M_readText_64 : decode m_M_readText.2.1 64 = .ok (.goto 37, 3) := by decide +kernel
theorem d_M_readText_67 : decode m_M_readText.2.1 67 = .ok (.iload_n 1, 1) := by decide +kernel
theorem d_M_readText_68 : decode m_M_readText.2.1 68 = .ok (.bipush 47, 2) := by decide +kernel
theorem d_M_readText_70 : decode m_M_readText.2.1 70 = .ok (.if_icmp .ne 10, 3) := by decide +kernel
theorem d_M_readText_73 : decode m_M_readText.2.1 73 = .ok (.aload_n 0, 1) := by decide +kernel
theorem d_M_readText_74 : decode m_M_readText.2.1 74 = .ok (.invokevirtual 147, 3) := by decide +kernel
theorem d_M_readText_77 : decode m_M_readText.2.1 77 = .ok (.goto 24, 3) := by decide +kernel
theorem d_M_readText_80 : decode m_M_readText.2.1 80 = .ok (.iload_n 1, 1) := by decide +kernel
theorem d_M_readText_81 : decode m_M_readText.2.1 81 = .ok (.bipush 42, 2) := by decide +kernel
theorem d_M_readText_83 : decode m_M_readText.2.1 83 = .ok (.if_icmp .ne 10, 3) := by decide +kernel
theorem d_M_readText_86 : decode m_M_readText.2.1 86 = .ok (.aload_n 0, 1) := by decide +kernel
theorem d_M_readText_87 : decode m_M_readText.2.1 87 = .ok (.invokevirtual 150, 3) := by decide +kernel
theorem d_M_readText_90 : decode m_M_readText.2.1 90 = .ok (.goto 11, 3) := by decide +kernel
theorem d_M_readText_93 : decode m_M_readText.2.1 93 = .ok (.aload_n 0, 1) := by decide +kernel
theorem d_M_readText_94 : decode m_M_readText.2.1 94 = .ok (.aload_n 0, 1) := by decide +kernel
theorem d_M_readText_95 : decode m_M_readText.2.1 95 = .ok (.getfield 71, 3) := by decide +kernel
theorem d_M_readText_98 : decode m_M_readText.2.1 98 = .ok (.invokevirtual 120, 3) := by decide +kernel
theorem d_M_readText_101 : decode m_M_readText.2.1 101 = .ok (.aload_n 0, 1) := by decide +kernel
theorem d_M_readText_102 : decode m_M_readText.2.1 102 = .ok (.bipush 10, 2) := by decide +kernel
theorem d_M_readText_104 : decode m_M_readText.2.1 104 = .ok (.invokevirtual 133, 3) := by decide +kernel
theorem d_M_readText_107 : decode m_M_readText.2.1 107 = .ok (.goto (-82), 3) := by decide +kernel
theorem d_M_readText_110 : decode m_M_readText.2.1 110 = .ok (.return_, 1) := by decide +kernel
theorem d_M_here_0 : decode m_M_here.2.1 0 = .ok (.aload_n 0, 1) := by decide +kernel
theorem d_M_here_1 : decode m_M_here.2.1 1 = .ok (.getfield 71, 3) := by decide +kernel
theorem d_M_here_4 : decode m_M_here.2.1 4 = .ok (.aload_n 0, 1) := by decide +kernel
theorem d_M_here_5 : decode m_M_here.2.1 5 = .ok (.getfield 17, 3) := by decide +kernel
theorem d_M_here_8 : decode m_M_here.2.1 8 = .ok (.if_icmp .ge 15, 3) := by decide +kernel
theorem d_M_here_11 : decode m_M_here.2.1 11 = .ok (.aload_n 0, 1) := by decide +kernel
theorem d_M_here_12 : decode m_M_here.2.1 12 = .ok (.getfield 13, 3) := by decide +kernel
theorem d_M_here_15 : decode m_M_here.2.1 15 = .ok (.aload_n 0, 1) := by decide +kernel
theorem d_M_here_16 : decode m_M_here.2.1 16 = .ok (.getfield 71, 3) := by decide +kernel
theorem d_M_here_19 : decode m_M_here.2.1 19 = .ok (.iaload, 1) := by decide +kernel
theorem d_M_here_20 : decode m_M_here.2.1 20 = .ok (.goto 4, 3) := by decide +kernel
theorem d_M_here_23 : decode m_M_here.2.1 23 = .ok (.iconst (-1), 1) := by decide +kernel
theorem d_M_here_24 : decode m_M_here.2.1 24 = .ok (.ireturn, 1) := by decide +kernel
theorem d_M_service_0 : decode m_M_service.2.1 0 = .ok (.aload_n 0, 1) := by decide +kernel
theorem d_M_service_1 : decode m_M_service.2.1 1 = .ok (.invokevirtual 116, 3) := by decide +kernel
theorem d_M_service_4 : decode m_M_service.2.1 4 = .ok (.istore_n 1, 1) := by decide +kernel
theorem d_M_service_5 : decode m_M_service.2.1 5 = .ok (.aload_n 0, 1) := by decide +kernel
theorem d_M_service_6 : decode m_M_service.2.1 6 = .ok (.iload_n 1, 1) := by decide +kernel
theorem d_M_service_7 : decode m_M_service.2.1 7 = .ok (.invokevirtual 129, 3) := by decide +kernel
theorem d_M_service_10 : decode m_M_service.2.1 10 = .ok (.ifCond .lt 12, 3) := by decide +kernel
theorem d_M_service_13 : decode m_M_service.2.1 13 = .ok (.aload_n 0, 1) := by decide +kernel
theorem d_M_service_14 : decode m_M_service.2.1 14 = .ok (.aload_n 0, 1) := by decide +kernel
theorem d_M_service_15 : decode m_M_service.2.1 15 = .ok (.getfield 71, 3) := by decide +kernel
theorem d_M_service_18 : decode m_M_service.2.1 18 = .ok (.invokevirtual 120, 3) := by decide +kernel
theorem d_M_service_21 : decode m_M_service.2.1 21 = .ok (.return_, 1) := by decide +kernel
theorem d_M_service_22 : decode m_M_service.2.1 22 = .ok (.bipush 8, 2) := by decide +kernel
theorem d_M_service_24 : decode m_M_service.2.1 24 = .ok (.aload_n 0, 1) := by decide +kernel
theorem d_M_service_25 : decode m_M_service.2.1 25 = .ok (.getfield 77, 3) := by decide +kernel
theorem d_M_service_28 : decode m_M_service.2.1 28 = .ok (.imul, 1) := by decide +kernel
theorem d_M_service_29 : decode m_M_service.2.1 29 = .ok (.istore_n 2, 1) := by decide +kernel
theorem d_M_service_30 : decode m_M_service.2.1 30 = .ok (.aload_n 0, 1) := by decide +kernel
theorem d_M_service_31 : decode m_M_service.2.1 31 = .ok (.dup, 1) := by decide +kernel
theorem d_M_service_32 : decode m_M_service.2.1 32 = .ok (.getfield 71, 3) := by decide +kernel
theorem d_M_service_35 : decode m_M_service.2.1 35 = .ok (.iconst 1, 1) := by decide +kernel
theorem d_M_service_36 : decode m_M_service.2.1 36 = .ok (.iadd, 1) := by decide +kernel
theorem d_M_service_37 : decode m_M_service.2.1 37 = .ok (.putfield 71, 3) := by decide +kernel
theorem d_M_service_40 : decode m_M_service.2.1 40 = .ok (.aload_n 0, 1) := by decide +kernel
theorem d_M_service_41 : decode m_M_service.2.1 41 = .ok (.bipush 58, 2) := by decide +kernel
theorem d_M_service_43 : decode m_M_service.2.1 43 = .ok (.invokevirtual 133, 3) := by decide +kernel
theorem d_M_service_46 : decode m_M_service.2.1 46 = .ok (.aload_n 0, 1) := by decide +kernel
theorem d_M_service_47 : decode m_M_service.2.1 47 = .ok (.iconst 1, 1) := by decide +kernel
theorem d_M_service_48 : decode m_M_service.2.1 48 = .ok (.invokevirtual 136, 3) := by decide +kernel
theorem d_M_service_51 : decode m_M_service.2.1 51 = .ok (.istore_n 3, 1) := by decide +kernel
theorem d_M_service_52 : decode m_M_service.2.1 52 = .ok (.aload_n 0, 1) := by decide +kernel
theorem d_M_service_53 : decode m_M_service.2.1 53 = .ok (.bipush 58, 2) := by decide +kernel
theorem d_M_service_55 : decode m_M_service.2.1 55 = .ok (.invokevirtual 133, 3) := by decide +kernel
theorem d_M_service_58 : decode m_M_service.2.1 58 = .ok (.aload_n 0, 1) := by decide +kernel
theorem d_M_service_59 : decode m_M_service.2.1 59 = .ok (.iconst 0, 1) := by decide +kernel
theorem d_M_service_60 : decode m_M_service.2.1 60 = .ok (.iconst 1, 1) := by decide +kernel
theorem d_M_service_61 : decode m_M_service.2.1 61 = .ok (.sipush 1000, 3) := by decide +kernel
theorem d_M_service_64 : decode m_M_service.2.1 64 = .ok (.invokevirtual 140, 3) := by decide +kernel
theorem d_M_service_67 : decode m_M_service.2.1 67 = .ok (.istore 4, 2) := by decide +kernel
theorem d_M_service_69 : decode m_M_service.2.1 69 = .ok (.aload_n 0, 1) := by decide +kernel
theorem d_M_service_70 : decode m_M_service.2.1 70 = .ok (.bipush 58, 2) := by decide +kernel
theorem d_M_service_72 : decode m_M_service.2.1 72 = .ok (.invokevirtual 133, 3) := by decide +kernel
theorem d_M_service_75 : decode m_M_service.2.1 75 = .ok (.aload_n 0, 1) := by decide +kernel
theorem d_M_service_76 : decode m_M_service.2.1 76 = .ok (.iconst 0, 1) := by decide +kernel
theorem d_M_service_77 : decode m_M_service.2.1 77 = .ok (.iconst 1, 1) := by decide +kernel
theorem d_M_service_78 : decode m_M_service.2.1 78 = .ok (.sipush 500, 3) := by decide +kernel
theorem d_M_service_81 : decode m_M_service.2.1 81 = .ok (.invokevirtual 140, 3) := by decide +kernel
theorem d_M_service_84 : decode m_M_service.2.1 84 = .ok (.istore 5, 2) := by decide +kernel
theorem d_M_service_86 : decode m_M_service.2.1 86 = .ok (.aload_n 0, 1) := by decide +kernel
theorem d_M_service_87 : decode m_M_service.2.1 87 = .ok (.bipush 58, 2) := by decide +kernel
theorem d_M_service_89 : decode m_M_service.2.1 89 = .ok (.invokevirtual 133, 3) := by decide +kernel
theorem d_M_service_92 : decode m_M_service.2.1 92 = .ok (.aload_n 0, 1) := by decide +kernel
theorem d_M_service_93 : decode m_M_service.2.1 93 = .ok (.iconst 0, 1) := by decide +kernel
theorem d_M_service_94 : decode m_M_service.2.1 94 = .ok (.invokevirtual 136, 3) := by decide +kernel
theorem d_M_service_97 : decode m_M_service.2.1 97 = .ok (.istore 6, 2) := by decide +kernel
theorem d_M_service_99 : decode m_M_service.2.1 99 = .ok (.aload_n 0, 1) := by decide +kernel
theorem d_M_service_100 : decode m_M_service.2.1 100 = .ok (.bipush 58, 2) := by decide +kernel
theorem d_M_service_102 : decode m_M_service.2.1 102 = .ok (.invokevirtual 133, 3) := by decide +kernel
theorem d_M_service_105 : decode m_M_service.2.1 105 = .ok (.aload_n 0, 1) := by decide +kernel
theorem d_M_service_106 : decode m_M_service.2.1 106 = .ok (.iconst 0, 1) := by decide +kernel
theorem d_M_service_107 : decode m_M_service.2.1 107 = .ok (.iconst 0, 1) := by decide +kernel
theorem d_M_service_108 : decode m_M_service.2.1 108 = .ok (.sipush 999, 3) := by decide +kernel
theorem d_M_service_111 : decode m_M_service.2.1 111 = .ok (.invokevirtual 140, 3) := by decide +kernel
theorem d_M_service_114 : decode m_M_service.2.1 114 = .ok (.istore 7, 2) := by decide +kernel
theorem d_M_service_116 : decode m_M_service.2.1 116 = .ok (.aload_n 0, 1) := by decide +kernel
theorem d_M_service_117 : decode m_M_service.2.1 117 = .ok (.bipush 43, 2) := by decide +kernel
theorem d_M_service_119 : decode m_M_service.2.1 119 = .ok (.invokevirtual 133, 3) := by decide +kernel
theorem d_M_service_122 : decode m_M_service.2.1 122 = .ok (.aload_n 0, 1) := by decide +kernel
theorem d_M_service_123 : decode m_M_service.2.1 123 = .ok (.iconst 0, 1) := by decide +kernel
theorem d_M_service_124 : decode m_M_service.2.1 124 = .ok (.iconst 0, 1) := by decide +kernel
theorem d_M_service_125 : decode m_M_service.2.1 125 = .ok (.bipush 99, 2) := by decide +kernel
theorem d_M_service_127 : decode m_M_service.2.1 127 = .ok (.invokevirtual 140, 3) := by decide +kernel
theorem d_M_service_130 : decode m_M_service.2.1 130 = .ok (.istore 8, 2) := by decide +kernel
theorem d_M_service_132 : decode m_M_service.2.1 132 = .ok (.aload_n 0, 1) := by decide +kernel
theorem d_M_service_133 : decode m_M_service.2.1 133 = .ok (.getfield 74, 3) := by decide +kernel
theorem d_M_service_136 : decode m_M_service.2.1 136 = .ok (.ifCond .lt 4, 3) := by decide +kernel
theorem d_M_service_139 : decode m_M_service.2.1 139 = .ok (.return_, 1) := by decide +kernel
theorem d_M_service_140 : decode m_M_service.2.1 140 = .ok (.aload_n 0, 1) := by decide +kernel
theorem d_M_service_141 : decode m_M_service.2.1 141 = .ok (.getfield 80, 3) := by decide +kernel
theorem d_M_service_144 : decode m_M_service.2.1 144 = .ok (.iload_n 2, 1) := by decide +kernel
theorem d_M_service_145 : decode m_M_service.2.1 145 = .ok (.iload_n 1, 1) := by decide +kernel
theorem d_M_service_146 : decode m_M_service.2.1 146 = .ok (.iastore, 1) := by decide +kernel
theorem d_M_service_147 : decode m_M_service.2.1 147 = .ok (.aload_n 0, 1) := by decide +kernel
theorem d_M_service_148 : decode m_M_service.2.1 148 = .ok (.getfield 80, 3) := by decide +kernel
theorem d_M_service_151 : decode m_M_service.2.1 151 = .ok (.iload_n 2, 1) := by decide +kernel
theorem d_M_service_152 : decode m_M_service.2.1 152 = .ok (.iconst 1, 1) := by decide +kernel
theorem d_M_service_153 : decode m_M_service.2.1 153 = .ok (.iadd, 1) := by decide +kernel
theorem d_M_service_154 : decode m_M_service.2.1 154 = .ok (.iload_n 3, 1) := by decide +kernel
theorem d_M_service_155 : decode m_M_service.2.1 155 = .ok (.iastore, 1) := by decide +kernel
theorem d_M_service_156 : decode m_M_service.2.1 156 = .ok (.aload_n 0, 1) := by decide +kernel
theorem d_M_service_157 : decode m_M_service.2.1 157 = .ok (.getfield 80, 3) := by decide +kernel
theorem d_M_service_160 : decode m_M_service.2.1 160 = .ok (.iload_n 2, 1) := by decide +kernel
theorem d_M_service_161 : decode m_M_service.2.1 161 = .ok (.iconst 2, 1) := by decide +kernel
theorem d_M_service_162 : decode m_M_service.2.1 162 = .ok (.iadd, 1) := by decide +kernel
theorem d_M_service_163 : decode m_M_service.2.1 163 = .ok (.iload 4, 2) := by decide +kernel
theorem d_M_service_165 : decode m_M_service.2.1 165 = .ok (.iastore, 1) := by decide +kernel
theorem d_M_service_166 : decode m_M_service.2.1 166 = .ok (.aload_n 0, 1) := by decide +kernel
theorem d_M_service_167 : decode m_M_service.2.1 167 = .ok (.getfield 80, 3) := by decide +kernel
theorem d_M_service_170 : decode m_M_service.2.1 170 = .ok (.iload_n 2, 1) := by decide +kernel
theorem d_M_service_171 : decode m_M_service.2.1 171 = .ok (.iconst 3, 1) := by decide +kernel
theorem d_M_service_172 : decode m_M_service.2.1 172 = .ok (.iadd, 1) := by decide +kernel
theorem d_M_service_173 : decode m_M_service.2.1 173 = .ok (.iload 5, 2) := by decide +kernel
theorem d_M_service_175 : decode m_M_service.2.1 175 = .ok (.iastore, 1) := by decide +kernel
theorem d_M_service_176 : decode m_M_service.2.1 176 = .ok (.aload_n 0, 1) := by decide +kernel
theorem d_M_service_177 : decode m_M_service.2.1 177 = .ok (.getfield 80, 3) := by decide +kernel
theorem d_M_service_180 : decode m_M_service.2.1 180 = .ok (.iload_n 2, 1) := by decide +kernel
theorem d_M_service_181 : decode m_M_service.2.1 181 = .ok (.iconst 4, 1) := by decide +kernel
theorem d_M_service_182 : decode m_M_service.2.1 182 = .ok (.iadd, 1) := by decide +kernel
theorem d_M_service_183 : decode m_M_service.2.1 183 = .ok (.iload 6, 2) := by decide +kernel
theorem d_M_service_185 : decode m_M_service.2.1 185 = .ok (.iastore, 1) := by decide +kernel
theorem d_M_service_186 : decode m_M_service.2.1 186 = .ok (.aload_n 0, 1) := by decide +kernel
theorem d_M_service_187 : decode m_M_service.2.1 187 = .ok (.getfield 80, 3) := by decide +kernel
theorem d_M_service_190 : decode m_M_service.2.1 190 = .ok (.iload_n 2, 1) := by decide +kernel
theorem d_M_service_191 : decode m_M_service.2.1 191 = .ok (.iconst 5, 1) := by decide +kernel
theorem d_M_service_192 : decode m_M_service.2.1 192 = .ok (.iadd, 1) := by decide +kernel
theorem d_M_service_193 : decode m_M_service.2.1 193 = .ok (.iload 7, 2) := by decide +kernel
theorem d_M_service_195 : decode m_M_service.2.1 195 = .ok (.iastore, 1) := by decide +kernel
theorem d_M_service_196 : decode m_M_service.2.1 196 = .ok (.aload_n 0, 1) := by decide +kernel
theorem d_M_service_197 : decode m_M_service.2.1 197 = .ok (.getfield 80, 3) := by decide +kernel
theorem d_M_service_200 : decode m_M_service.2.1 200 = .ok (.iload_n 2, 1) := by decide +kernel
theorem d_M_service_201 : decode m_M_service.2.1 201 = .ok (.bipush 6, 2) := by decide +kernel
theorem d_M_service_203 : decode m_M_service.2.1 203 = .ok (.iadd, 1) := by decide +kernel
theorem d_M_service_204 : decode m_M_service.2.1 204 = .ok (.iload 8, 2) := by decide +kernel
theorem d_M_service_206 : decode m_M_service.2.1 206 = .ok (.iastore, 1) := by decide +kernel
theorem d_M_service_207 : decode m_M_service.2.1 207 = .ok (.aload_n 0, 1) := by decide +kernel
theorem d_M_service_208 : decode m_M_service.2.1 208 = .ok (.getfield 80, 3) := by decide +kernel
theorem d_M_service_211 : decode m_M_service.2.1 211 = .ok (.iload_n 2, 1) := by decide +kernel
theorem d_M_service_212 : decode m_M_service.2.1 212 = .ok (.bipush 7, 2) := by decide +kernel
theorem d_M_service_214 : decode m_M_service.2.1 214 = .ok (.iadd, 1) := by decide +kernel
theorem d_M_service_215 : decode m_M_service.2.1 215 = .ok (.iconst (-1), 1) := by decide +kernel
theorem d_M_service_216 : decode m_M_service.2.1 216 = .ok (.iastore, 1) := by decide +kernel
theorem d_M_service_217 : decode m_M_service.2.1 217 = .ok (.aload_n 0, 1) := by decide +kernel
theorem d_M_service_218 : decode m_M_service.2.1 218 = .ok (.dup, 1) := by decide +kernel
theorem d_M_service_219 : decode m_M_service.2.1 219 = .ok (.getfield 77, 3) := by decide +kernel
theorem d_M_service_222 : decode m_M_service.2.1 222 = .ok (.iconst 1, 1) := by decide +kernel
theorem d_M_service_223 : decode m_M_service.2.1 223 = .ok (.iadd, 1) := by decide +kernel
theorem d_M_service_224 : decode m_M_service.2.1 224 = .ok (.putfield 77, 3) := by decide +kernel
theorem d_M_service_227 : decode m_M_service.2.1 227 = .ok (.return_, 1) := by decide +kernel
theorem d_M_toldAt_0 : decode m_M_toldAt.2.1 0 = .ok (.iconst 0, 1) := by decide +kernel
theorem d_M_toldAt_1 : decode m_M_toldAt.2.1 1 = .ok (.istore_n 2, 1) := by decide +kernel
theorem d_M_toldAt_2 : decode m_M_toldAt.2.1 2 = .ok (.iload_n 2, 1) := by decide +kernel
theorem d_M_toldAt_3 : decode m_M_toldAt.2.1 3 = .ok (.aload_n 0, 1) := by decide +kernel
theorem d_M_toldAt_4 : decode m_M_toldAt.2.1 4 = .ok (.getfield 77, 3) := by decide +kernel
theorem d_M_toldAt_7 : decode m_M_toldAt.2.1 7 = .ok (.if_icmp .ge 24, 3) := by decide +kernel
theorem d_M_toldAt_10 : decode m_M_toldAt.2.1 10 = .ok (.aload_n 0, 1) := by decide +kernel
theorem d_M_toldAt_11 : decode m_M_toldAt.2.1 11 = .ok (.getfield 80, 3) := by decide +kernel
theorem d_M_toldAt_14 : decode m_M_toldAt.2.1 14 = .ok (.bipush 8, 2) := by decide +kernel
theorem d_M_toldAt_16 : decode m_M_toldAt.2.1 16 = .ok (.iload_n 2, 1) := by decide +kernel
theorem d_M_toldAt_17 : decode m_M_toldAt.2.1 17 = .ok (.imul, 1) := by decide +kernel
theorem d_M_toldAt_18 : decode m_M_toldAt.2.1 18 = .ok (.iaload, 1) := by decide +kernel
theorem d_M_toldAt_19 : decode m_M_toldAt.2.1 19 = .ok (.iload_n 1, 1) := by decide +kernel
theorem d_M_toldAt_20 : decode m_M_toldAt.2.1 20 = .ok (.if_icmp .ne 5, 3) := by decide +kernel
theorem d_M_toldAt_23 : decode m_M_toldAt.2.1 23 = .ok (.iload_n 2, 1) := by decide +kernel
theorem d_M_toldAt_24 : decode m_M_toldAt.2.1 24 = .ok (.ireturn, 1) := by decide +kernel
theorem d_M_toldAt_25 : decode m_M_toldAt.2.1 25 = .ok (.iinc 2 1, 3) := by decide +kernel
theorem d_M_toldAt_28 : decode m_M_toldAt.2.1 28 = .ok (.goto (-26), 3) := by decide +kernel
theorem d_M_toldAt_31 : decode m_M_toldAt.2.1 31 = .ok (.iconst (-1), 1) := by decide +kernel
theorem d_M_toldAt_32 : decode m_M_toldAt.2.1 32 = .ok (.ireturn, 1) := by decide +kernel
theorem d_M_fail_0 : decode m_M_fail.2.1 0 = .ok (.aload_n 0, 1) := by decide +kernel
theorem d_M_fail_1 : decode m_M_fail.2.1 1 = .ok (.getfield 74, 3) := by decide +kernel
theorem d_M_fail_4 : decode m_M_fail.2.1 4 = .ok (.ifCond .ge 8, 3) := by decide +kernel
theorem d_M_fail_7 : decode m_M_fail.2.1 7 = .ok (.aload_n 0, 1) := by decide +kernel
theorem d_M_fail_8 : decode m_M_fail.2.1 8 = .ok (.iload_n 1, 1) := by decide +kernel
theorem d_M_fail_9 : decode m_M_fail.2.1 9 = .ok (.putfield 74, 3) := by decide +kernel
theorem d_M_fail_12 : decode m_M_fail.2.1 12 = .ok (.return_, 1) := by decide +kernel
theorem d_M_take_0 : decode m_M_take.2.1 0 = .ok (.aload_n 0, 1) := by decide +kernel
theorem d_M_take_1 : decode m_M_take.2.1 1 = .ok (.getfield 74, 3) := by decide +kernel
theorem d_M_take_4 : decode m_M_take.2.1 4 = .ok (.ifCond .lt 4, 3) := by decide +kernel
theorem d_M_take_7 : decode m_M_take.2.1 7 = .ok (.return_, 1) := by decide +kernel
theorem d_M_take_8 : decode m_M_take.2.1 8 = .ok (.aload_n 0, 1) := by decide +kernel
theorem d_M_take_9 : decode m_M_take.2.1 9 = .ok (.invokevirtual 116, 3) := by decide +kernel
theorem d_M_take_12 : decode m_M_take.2.1 12 = .ok (.iload_n 1, 1) := by decide +kernel
theorem d_M_take_13 : decode m_M_take.2.1 13 = .ok (.if_icmp .ne 16, 3) := by decide +kernel
theorem d_M_take_16 : decode m_M_take.2.1 16 = .ok (.aload_n 0, 1) := by decide +kernel
theorem d_M_take_17 : decode m_M_take.2.1 17 = .ok (.dup, 1) := by decide +kernel
theorem d_M_take_18 : decode m_M_take.2.1 18 = .ok (.getfield 71, 3) := by decide +kernel
theorem d_M_take_21 : decode m_M_take.2.1 21 = .ok (.iconst 1, 1) := by decide +kernel
theorem d_M_take_22 : decode m_M_take.2.1 22 = .ok (.iadd, 1) := by decide +kernel
theorem d_M_take_23 : decode m_M_take.2.1 23 = .ok (.putfield 71, 3) := by decide +kernel
theorem d_M_take_26 : decode m_M_take.2.1 26 = .ok (.goto 11, 3) := by decide +kernel
theorem d_M_take_29 : decode m_M_take.2.1 29 = .ok (.aload_n 0, 1) := by decide +kernel
theorem d_M_take_30 : decode m_M_take.2.1 30 = .ok (.aload_n 0, 1) := by decide +kernel
theorem d_M_take_31 : decode m_M_take.2.1 31 = .ok (.getfield 71, 3) := by decide +kernel
theorem d_M_take_34 : decode m_M_take.2.1 34 = .ok (.invokevirtual 120, 3) := by decide +kernel
theorem d_M_take_37 : decode m_M_take.2.1 37 = .ok (.return_, 1) := by decide +kernel
theorem d_M_digits_0 : decode m_M_digits.2.1 0 = .ok (.iconst 0, 1) := by decide +kernel
theorem d_M_digits_1 : decode m_M_digits.2.1 1 = .ok (.istore_n 2, 1) := by decide +kernel
theorem d_M_digits_2 : decode m_M_digits.2.1 2 = .ok (.bipush 48, 2) := by decide +kernel
theorem d_M_digits_4 : decode m_M_digits.2.1 4 = .ok (.istore_n 3, 1) := by decide +kernel
theorem d_M_digits_5 : decode m_M_digits.2.1 5 = .ok (.iconst 0, 1) := by decide +kernel
theorem d_M_digits_6 : decode m_M_digits.2.1 6 = .ok (.istore 4, 2) := by decide +kernel
theorem d_M_digits_8 : decode m_M_digits.2.1 8 = .ok (.aload_n 0, 1) := by decide +kernel
theorem d_M_digits_9 : decode m_M_digits.2.1 9 = .ok (.getfield 74, 3) := by decide +kernel
theorem d_M_digits_12 : decode m_M_digits.2.1 12 = .ok (.ifCond .lt 5, 3) := by decide +kernel
theorem d_M_digits_15 : decode m_M_digits.2.1 15 = .ok (.iconst 0, 1) := by decide +kernel
theorem d_M_digits_16 : decode m_M_digits.2.1 16 = .ok (.ireturn, 1) := by decide +kernel
theorem d_M_digits_17 : decode m_M_digits.2.1 17 = .ok (.aload_n 0, 1) := by decide +kernel
theorem d_M_digits_18 : decode m_M_digits.2.1 18 = .ok (.invokevirtual 116, 3) := by decide +kernel
theorem d_M_digits_21 : decode m_M_digits.2.1 21 = .ok (.invokestatic 124, 3) := by decide +kernel
theorem d_M_digits_24 : decode m_M_digits.2.1 24 = .ok (.ifCond .eq 41, 3) := by decide +kernel
theorem d_M_digits_27 : decode m_M_digits.2.1 27 = .ok (.aload_n 0, 1) := by decide +kernel
theorem d_M_digits_28 : decode m_M_digits.2.1 28 = .ok (.invokevirtual 116, 3) := by decide +kernel
theorem d_M_digits_31 : decode m_M_digits.2.1 31 = .ok (.iload_n 3, 1) := by decide +kernel
theorem d_M_digits_32 : decode m_M_digits.2.1 32 = .ok (.if_icmp .le 33, 3) := by decide +kernel
theorem d_M_digits_35 : decode m_M_digits.2.1 35 = .ok (.aload_n 0, 1) := by decide +kernel
theorem d_M_digits_36 : decode m_M_digits.2.1 36 = .ok (.invokevirtual 116, 3) := by decide +kernel
theorem d_M_digits_39 : decode m_M_digits.2.1 39 = .ok (.istore_n 3, 1) := by decide +kernel
theorem d_M_digits_40 : decode m_M_digits.2.1 40 = .ok (.iload_n 2, 1) := by decide +kernel
theorem d_M_digits_41 : decode m_M_digits.2.1 41 = .ok (.iconst 1, 1) := by decide +kernel
theorem d_M_digits_42 : decode m_M_digits.2.1 42 = .ok (.iload_n 3, 1) := by decide +kernel
theorem d_M_digits_43 : decode m_M_digits.2.1 43 = .ok (.bipush 48, 2) := by decide +kernel
theorem d_M_digits_45 : decode m_M_digits.2.1 45 = .ok (.isub, 1) := by decide +kernel
theorem d_M_digits_46 : decode m_M_digits.2.1 46 = .ok (.ishl, 1) := by decide +kernel
theorem d_M_digits_47 : decode m_M_digits.2.1 47 = .ok (.ior, 1) := by decide +kernel
theorem d_M_digits_48 : decode m_M_digits.2.1 48 = .ok (.istore_n 2, 1) := by decide +kernel
theorem d_M_digits_49 : decode m_M_digits.2.1 49 = .ok (.iinc 4 1, 3) := by decide +kernel
theorem d_M_digits_52 : decode m_M_digits.2.1 52 = .ok (.aload_n 0, 1) := by decide +kernel
theorem d_M_digits_53 : decode m_M_digits.2.1 53 = .ok (.dup, 1) := by decide +kernel
theorem d_M_digits_54 : decode m_M_digits.2.1 54 = .ok (.getfield 71, 3) := by decide +kernel
theorem d_M_digits_57 : decode m_M_digits.2.1 57 = .ok (.iconst 1, 1) := by decide +kernel
theorem d_M_digits_58 : decode m_M_digits.2.1 58 = .ok (.iadd, 1) := by decide +kernel
theorem d_M_digits_59 : decode m_M_digits.2.1 59 = .ok (.putfield 71, 3) := by decide +kernel
theorem d_M_digits_62 : decode m_M_digits.2.1 62 = .ok (.goto (-45), 3) := by decide +kernel
theorem d_M_digits_65 : decode m_M_digits.2.1 65 = .ok (.iload_n 1, 1) := by decide +kernel
theorem d_M_digits_66 : decode m_M_digits.2.1 66 = .ok (.ifCond .eq 16, 3) := by decide +kernel
theorem d_M_digits_69 : decode m_M_digits.2.1 69 = .ok (.iload 4, 2) := by decide +kernel
theorem d_M_digits_71 : decode m_M_digits.2.1 71 = .ok (.ifCond .ne 11, 3) := by decide +kernel
theorem d_M_digits_74 : decode m_M_digits.2.1 74 = .ok (.aload_n 0, 1) := by decide +kernel
theorem d_M_digits_75 : decode m_M_digits.2.1 75 = .ok (.aload_n 0, 1) := by decide +kernel
theorem d_M_digits_76 : decode m_M_digits.2.1 76 = .ok (.getfield 71, 3) := by decide +kernel
theorem d_M_digits_79 : decode m_M_digits.2.1 79 = .ok (.invokevirtual 120, 3) := by decide +kernel
theorem d_M_digits_82 : decode m_M_digits.2.1 82 = .ok (.iload_n 2, 1) := by decide +kernel
theorem d_M_digits_83 : decode m_M_digits.2.1 83 = .ok (.ireturn, 1) := by decide +kernel
theorem d_M_digit_0 : decode m_M_digit.2.1 0 = .ok (.iload_n 0, 1) := by decide +kernel
theorem d_M_digit_1 : decode m_M_digit.2.1 1 = .ok (.bipush 48, 2) := by decide +kernel
theorem d_M_digit_3 : decode m_M_digit.2.1 3 = .ok (.if_icmp .lt 13, 3) := by decide +kernel
theorem d_M_digit_6 : decode m_M_digit.2.1 6 = .ok (.iload_n 0, 1) := by decide +kernel
theorem d_M_digit_7 : decode m_M_digit.2.1 7 = .ok (.bipush 57, 2) := by decide +kernel
theorem d_M_digit_9 : decode m_M_digit.2.1 9 = .ok (.if_icmp .gt 7, 3) := by decide +kernel
theorem d_M_digit_12 : decode m_M_digit.2.1 12 = .ok (.iconst 1, 1) := by decide +kernel
theorem d_M_digit_13 : decode m_M_digit.2.1 13 = .ok (.goto 4, 3) := by decide +kernel
theorem d_M_digit_16 : decode m_M_digit.2.1 16 = .ok (.iconst 0, 1) := by decide +kernel
theorem d_M_digit_17 : decode m_M_digit.2.1 17 = .ok (.ireturn, 1) := by decide +kernel
theorem d_M_value_0 : decode m_M_value.2.1 0 = .ok (.aload_n 0, 1) := by decide +kernel
theorem d_M_value_1 : decode m_M_value.2.1 1 = .ok (.getfield 71, 3) := by decide +kernel
theorem d_M_value_4 : decode m_M_value.2.1 4 = .ok (.istore 4, 2) := by decide +kernel
theorem d_M_value_6 : decode m_M_value.2.1 6 = .ok (.iconst 0, 1) := by decide +kernel
theorem d_M_value_7 : decode m_M_value.2.1 7 = .ok (.istore 5, 2) := by decide +kernel
theorem d_M_value_9 : decode m_M_value.2.1 9 = .ok (.iconst 0, 1) := by decide +kernel
theorem d_M_value_10 : decode m_M_value.2.1 10 = .ok (.istore 6, 2) := by decide +kernel
theorem d_M_value_12 : decode m_M_value.2.1 12 = .ok (.aload_n 0, 1) := by decide +kernel
theorem d_M_value_13 : decode m_M_value.2.1 13 = .ok (.getfield 74, 3) := by decide +kernel
theorem d_M_value_16 : decode m_M_value.2.1 16 = .ok (.ifCond .lt 5, 3) := by decide +kernel
theorem d_M_value_19 : decode m_M_value.2.1 19 = .ok (.iconst (-1), 1) := by decide +kernel
theorem d_M_value_20 : decode m_M_value.2.1 20 = .ok (.ireturn, 1) := by decide +kernel
theorem d_M_value_21 : decode m_M_value.2.1 21 = .ok (.aload_n 0, 1) := by decide +kernel
theorem d_M_value_22 : decode m_M_value.2.1 22 = .ok (.invokevirtual 116, 3) := by decide +kernel
theorem d_M_value_25 : decode m_M_value.2.1 25 = .ok (.invokestatic 124, 3) := by decide +kernel
theorem d_M_value_28 : decode m_M_value.2.1 28 = .ok (.ifCond .eq 85, 3) := by decide +kernel
theorem d_M_value_31 : decode m_M_value.2.1 31 = .ok (.iload_n 1, 1) := by decide +kernel
theorem d_M_value_32 : decode m_M_value.2.1 32 = .ok (.ifCond .eq 9, 3) := by decide +kernel
theorem d_M_value_35 : decode m_M_value.2.1 35 = .ok (.iload 6, 2) := by decide +kernel
theorem d_M_value_37 : decode m_M_value.2.1 37 = .ok (.iload_n 1, 1) := by decide +kernel
theorem d_M_value_38 : decode m_M_value.2.1 38 = .ok (.if_icmp .ge 75, 3) := by decide +kernel
theorem d_M_value_41 : decode m_M_value.2.1 41 = .ok (.iload_n 1, 1) := by decide +kernel
theorem d_M_value_42 : decode m_M_value.2.1 42 = .ok (.ifCond .ne 33, 3) := by decide +kernel
theorem d_M_value_45 : decode m_M_value.2.1 45 = .ok (.iload 6, 2) := by decide +kernel
theorem d_M_value_47 : decode m_M_value.2.1 47 = .ok (.iconst 1, 1) := by decide +kernel
theorem d_M_value_48 : decode m_M_value.2.1 48 = .ok (.if_icmp .ne 27, 3) := by decide +kernel
theorem d_M_value_51 : decode m_M_value.2.1 51 = .ok (.iload 5, 2) := by decide +kernel
theorem d_M_value_53 : decode m_M_value.2.1 53 = .ok (.ifCond .ne 22, 3) := by decide +kernel
theorem d_M_value_56 : decode m_M_value.2.1 56 = .ok (.aload_n 0, 1) := by decide +kernel
theorem d_M_value_57 : decode m_M_value.2.1 57 = .ok (.iload_n 2, 1) := by decide +kernel
theorem d_M_value_58 : decode m_M_value.2.1 58 = .ok (.ifCond .le 8, 3) := by decide +kernel
theorem d_M_value_61 : decode m_M_value.2.1 61 = .ok (.iload 4, 2) := by decide +kernel
theorem d_M_value_63 : decode m_M_value.2.1 63 = .ok (.goto 7, 3) := by decide +kernel
theorem d_M_value_66 : decode m_M_value.2.1 66 = .ok (.aload_n 0, 1) := by decide +kernel
theorem d_M_value_67 : decode m_M_value.2.1 67 = .ok (.getfield 71, 3) := by decide +kernel
theorem d_M_value_70 : decode m_M_value.2.1 70 = .ok (.invokevirtual 120, 3) := by decide +kernel
theorem d_M_value_73 : decode m_M_value.2.1 73 = .ok (.iconst (-1), 1) := by decide +kernel
theorem d_M_value_74 : decode m_M_value.2.1 74 = .ok (.ireturn, 1) := by decide +kernel
theorem d_M_value_75 : decode m_M_value.2.1 75 = .ok (.iload 5, 2) := by decide +kernel
theorem d_M_value_77 : decode m_M_value.2.1 77 = .ok (.ldc 128, 2) := by decide +kernel
theorem d_M_value_79 : decode m_M_value.2.1 79 = .ok (.if_icmp .ge 18, 3) := by decide +kernel
theorem d_M_value_82 : decode m_M_value.2.1 82 = .ok (.bipush 10, 2) := by decide +kernel
theorem d_M_value_84 : decode m_M_value.2.1 84 = .ok (.iload 5, 2) := by decide +kernel
theorem d_M_value_86 : decode m_M_value.2.1 86 = .ok (.imul, 1) := by decide +kernel
theorem d_M_value_87 : decode m_M_value.2.1 87 = .ok (.aload_n 0, 1) := by decide +kernel
theorem d_M_value_88 : decode m_M_value.2.1 88 = .ok (.invokevirtual 116, 3) := by decide +kernel
theorem d_M_value_91 : decode m_M_value.2.1 91 = .ok (.iadd, 1) := by decide +kernel
theorem d_M_value_92 : decode m_M_value.2.1 92 = .ok (.bipush 48, 2) := by decide +kernel
theorem d_M_value_94 : decode m_M_value.2.1 94 = .ok (.isub, 1) := by decide +kernel
theorem d_M_value_95 : decode m_M_value.2.1 95 = .ok (.istore 5, 2) := by decide +kernel
theorem d_M_value_97 : decode m_M_value.2.1 97 = .ok (.iinc 6 1, 3) := by decide +kernel
theorem d_M_value_100 : decode m_M_value.2.1 100 = .ok (.aload_n 0, 1) := by decide +kernel
theorem d_M_value_101 : decode m_M_value.2.1 101 = .ok (.dup, 1) := by decide +kernel
theorem d_M_value_102 : decode m_M_value.2.1 102 = .ok (.getfield 71, 3) := by decide +kernel
theorem d_M_value_105 : decode m_M_value.2.1 105 = .ok (.iconst 1, 1) := by decide +kernel
theorem d_M_value_106 : decode m_M_value.2.1 106 = .ok (.iadd, 1) := by decide +kernel
theorem d_M_value_107 : decode m_M_value.2.1 107 = .ok (.putfield 71, 3) := by decide +kernel
theorem d_M_value_110 : decode m_M_value.2.1 110 = .ok (.goto (-89), 3) := by decide +kernel
theorem d_M_value_113 : decode m_M_value.2.1 113 = .ok (.iload 6, 2) := by decide +kernel
theorem d_M_value_115 : decode m_M_value.2.1 115 = .ok (.ifCond .eq 9, 3) := by decide +kernel
theorem d_M_value_118 : decode m_M_value.2.1 118 = .ok (.iload 6, 2) := by decide +kernel
theorem d_M_value_120 : decode m_M_value.2.1 120 = .ok (.iload_n 1, 1) := by decide +kernel
theorem d_M_value_121 : decode m_M_value.2.1 121 = .ok (.if_icmp .ge 14, 3) := by decide +kernel
theorem d_M_value_124 : decode m_M_value.2.1 124 = .ok (.aload_n 0, 1) := by decide +kernel
theorem d_M_value_125 : decode m_M_value.2.1 125 = .ok (.aload_n 0, 1) := by decide +kernel
theorem d_M_value_126 : decode m_M_value.2.1 126 = .ok (.getfield 71, 3) := by decide +kernel
theorem d_M_value_129 : decode m_M_value.2.1 129 = .ok (.invokevirtual 120, 3) := by decide +kernel
theorem d_M_value_132 : decode m_M_value.2.1 132 = .ok (.goto 21, 3) := by decide +kernel
theorem d_M_value_135 : decode m_M_value.2.1 135 = .ok (.iload 5, 2) := by decide +kernel
theorem d_M_value_137 : decode m_M_value.2.1 137 = .ok (.iload_n 2, 1) := by decide +kernel
theorem d_M_value_138 : decode m_M_value.2.1 138 = .ok (.if_icmp .lt 9, 3) := by decide +kernel
theorem d_M_value_141 : decode m_M_value.2.1 141 = .ok (.iload 5, 2) := by decide +kernel
theorem d_M_value_143 : decode m_M_value.2.1 143 = .ok (.iload_n 3, 1) := by decide +kernel
theorem d_M_value_144 : decode m_M_value.2.1 144 = .ok (.if_icmp .le 9, 3) := by decide +kernel
theorem d_M_value_147 : decode m_M_value.2.1 147 = .ok (.aload_n 0, 1) := by decide +kernel
theorem d_M_value_148 : decode m_M_value.2.1 148 = .ok (.iload 4, 2) := by decide +kernel
theorem d_M_value_150 : decode m_M_value.2.1 150 = .ok (.invokevirtual 120, 3) := by decide +kernel
theorem d_M_value_153 : decode m_M_value.2.1 153 = .ok (.aload_n 0, 1) := by decide +kernel
theorem d_M_value_154 : decode m_M_value.2.1 154 = .ok (.getfield 74, 3) := by decide +kernel
theorem d_M_value_157 : decode m_M_value.2.1 157 = .ok (.ifCond .lt 7, 3) := by decide +kernel
theorem d_M_value_160 : decode m_M_value.2.1 160 = .ok (.iconst (-1), 1) := by decide +kernel
theorem d_M_value_161 : decode m_M_value.2.1 161 = .ok (.goto 5, 3) := by decide +kernel
theorem d_M_value_164 : decode m_M_value.2.1 164 = .ok (.iload 5, 2) := by decide +kernel
theorem d_M_value_166 : decode m_M_value.2.1 166 = .ok (.ireturn, 1) := by decide +kernel
theorem d_M_range_0 : decode m_M_range.2.1 0 = .ok (.aload_n 0, 1) := by decide +kernel
theorem d_M_range_1 : decode m_M_range.2.1 1 = .ok (.dup, 1) := by decide +kernel
theorem d_M_range_2 : decode m_M_range.2.1 2 = .ok (.getfield 71, 3) := by decide +kernel
theorem d_M_range_5 : decode m_M_range.2.1 5 = .ok (.iconst 1, 1) := by decide +kernel
theorem d_M_range_6 : decode m_M_range.2.1 6 = .ok (.iadd, 1) := by decide +kernel
theorem d_M_range_7 : decode m_M_range.2.1 7 = .ok (.putfield 71, 3) := by decide +kernel
theorem d_M_range_10 : decode m_M_range.2.1 10 = .ok (.aload_n 0, 1) := by decide +kernel
theorem d_M_range_11 : decode m_M_range.2.1 11 = .ok (.iconst 4, 1) := by decide +kernel
theorem d_M_range_12 : decode m_M_range.2.1 12 = .ok (.aload_n 0, 1) := by decide +kernel
theorem d_M_range_13 : decode m_M_range.2.1 13 = .ok (.getfield 95, 3) := by decide +kernel
theorem d_M_range_16 : decode m_M_range.2.1 16 = .ok (.iconst 1, 1) := by decide +kernel
theorem d_M_range_17 : decode m_M_range.2.1 17 = .ok (.iadd, 1) := by decide +kernel
theorem d_M_range_18 : decode m_M_range.2.1 18 = .ok (.sipush 9999, 3) := by decide +kernel
theorem d_M_range_21 : decode m_M_range.2.1 21 = .ok (.invokevirtual 140, 3) := by decide +kernel
theorem d_M_range_24 : decode m_M_range.2.1 24 = .ok (.istore_n 1, 1) := by decide +kernel
theorem d_M_range_25 : decode m_M_range.2.1 25 = .ok (.aload_n 0, 1) := by decide +kernel
theorem d_M_range_26 : decode m_M_range.2.1 26 = .ok (.bipush 45, 2) := by decide +kernel
theorem d_M_range_28 : decode m_M_range.2.1 28 = .ok (.invokevirtual 133, 3) := by decide +kernel
theorem d_M_range_31 : decode m_M_range.2.1 31 = .ok (.aload_n 0, 1) := by decide +kernel
theorem d_M_range_32 : decode m_M_range.2.1 32 = .ok (.iconst 4, 1) := by decide +kernel
theorem d_M_range_33 : decode m_M_range.2.1 33 = .ok (.iload_n 1, 1) := by decide +kernel
theorem d_M_range_34 : decode m_M_range.2.1 34 = .ok (.sipush 9999, 3) := by decide +kernel
theorem d_M_range_37 : decode m_M_range.2.1 37 = .ok (.invokevirtual 140, 3) := by decide +kernel
theorem d_M_range_40 : decode m_M_range.2.1 40 = .ok (.istore_n 2, 1) := by decide +kernel
theorem d_M_range_41 : decode m_M_range.2.1 41 = .ok (.aload_n 0, 1) := by decide +kernel
theorem d_M_range_42 : decode m_M_range.2.1 42 = .ok (.bipush 58, 2) := by decide +kernel
theorem d_M_range_44 : decode m_M_range.2.1 44 = .ok (.invokevirtual 133, 3) := by decide +kernel
theorem d_M_range_47 : decode m_M_range.2.1 47 = .ok (.aload_n 0, 1) := by decide +kernel
theorem d_M_range_48 : decode m_M_range.2.1 48 = .ok (.iconst 1, 1) := by decide +kernel
theorem d_M_range_49 : decode m_M_range.2.1 49 = .ok (.iconst 1, 1) := by decide +kernel
theorem d_M_range_50 : decode m_M_range.2.1 50 = .ok (.bipush 9, 2) := by decide +kernel
theorem d_M_range_52 : decode m_M_range.2.1 52 = .ok (.invokevirtual 140, 3) := by decide +kernel
theorem d_M_range_55 : decode m_M_range.2.1 55 = .ok (.istore_n 3, 1) := by decide +kernel
theorem d_M_range_56 : decode m_M_range.2.1 56 = .ok (.aload_n 0, 1) := by decide +kernel
theorem d_M_range_57 : decode m_M_range.2.1 57 = .ok (.getfield 74, 3) := by decide +kernel
theorem d_M_range_60 : decode m_M_range.2.1 60 = .ok (.ifCond .lt 4, 3) := by decide +kernel
theorem d_M_range_63 : decode m_M_range.2.1 63 = .ok (.return_, 1) := by decide +kernel
theorem d_M_range_64 : decode m_M_range.2.1 64 = .ok (.aload_n 0, 1) := by decide +kernel
theorem d_M_range_65 : decode m_M_range.2.1 65 = .ok (.iload_n 2, 1) := by decide +kernel
theorem d_M_range_66 : decode m_M_range.2.1 66 = .ok (.putfield 95, 3) := by decide +kernel
theorem d_M_range_69 : decode m_M_range.2.1 69 = .ok (.aload_n 0, 1) := by decide +kernel
theorem d_M_range_70 : decode m_M_range.2.1 70 = .ok (.getfield 83, 3) := by decide +kernel
theorem d_M_range_73 : decode m_M_range.2.1 73 = .ok (.bipush 8, 2) := by decide +kernel
theorem d_M_range_75 : decode m_M_range.2.1 75 = .ok (.if_icmp .ge 33, 3) := by decide +kernel
theorem d_M_range_78 : decode m_M_range.2.1 78 = .ok (.aload_n 0, 1) := by decide +kernel
theorem d_M_range_79 : decode m_M_range.2.1 79 = .ok (.getfield 86, 3) := by decide +kernel
theorem d_M_range_82 : decode m_M_range.2.1 82 = .ok (.aload_n 0, 1) := by decide +kernel
theorem d_M_range_83 : decode m_M_range.2.1 83 = .ok (.getfield 83, 3) := by decide +kernel
theorem d_M_range_86 : decode m_M_range.2.1 86 = .ok (.iload_n 1, 1) := by decide +kernel
theorem d_M_range_87 : decode m_M_range.2.1 87 = .ok (.iastore, 1) := by decide +kernel
theorem d_M_range_88 : decode m_M_range.2.1 88 = .ok (.aload_n 0, 1) := by decide +kernel
theorem d_M_range_89 : decode m_M_range.2.1 89 = .ok (.getfield 89, 3) := by decide +kernel
theorem d_M_range_92 : decode m_M_range.2.1 92 = .ok (.aload_n 0, 1) := by decide +kernel
theorem d_M_range_93 : decode m_M_range.2.1 93 = .ok (.getfield 83, 3) := by decide +kernel
theorem d_M_range_96 : decode m_M_range.2.1 96 = .ok (.iload_n 2, 1) := by decide +kernel
theorem d_M_range_97 : decode m_M_range.2.1 97 = .ok (.iastore, 1) := by decide +kernel
theorem d_M_range_98 : decode m_M_range.2.1 98 = .ok (.aload_n 0, 1) := by decide +kernel
theorem d_M_range_99 : decode m_M_range.2.1 99 = .ok (.getfield 92, 3) := by decide +kernel
theorem d_M_range_102 : decode m_M_range.2.1 102 = .ok (.aload_n 0, 1) := by decide +kernel
theorem d_M_range_103 : decode m_M_range.2.1 103 = .ok (.getfield 83, 3) := by decide +kernel
theorem d_M_range_106 : decode m_M_range.2.1 106 = .ok (.iload_n 3, 1) := by decide +kernel
theorem d_M_range_107 : decode m_M_range.2.1 107 = .ok (.iastore, 1) := by decide +kernel
theorem d_M_range_108 : decode m_M_range.2.1 108 = .ok (.aload_n 0, 1) := by decide +kernel
theorem d_M_range_109 : decode m_M_range.2.1 109 = .ok (.dup, 1) := by decide +kernel
theorem d_M_range_110 : decode m_M_range.2.1 110 = .ok (.getfield 83, 3) := by decide +kernel
theorem d_M_range_113 : decode m_M_range.2.1 113 = .ok (.iconst 1, 1) := by decide +kernel
theorem d_M_range_114 : decode m_M_range.2.1 114 = .ok (.iadd, 1) := by decide +kernel
theorem d_M_range_115 : decode m_M_range.2.1 115 = .ok (.putfield 83, 3) := by decide +kernel
theorem d_M_range_118 : decode m_M_range.2.1 118 = .ok (.return_, 1) := by decide +kernel
theorem d_M_hoursLine_0 : decode m_M_hoursLine.2.1 0 = .ok (.aload_n 0, 1) := by decide +kernel
theorem d_M_hoursLine_1 : decode m_M_hoursLine.2.1 1 = .ok (.dup, 1) := by decide +kernel
theorem d_M_hoursLine_2 : decode m_M_hoursLine.2.1 2 = .ok (.getfield 71, 3) := by decide +kernel
theorem d_M_hoursLine_5 : decode m_M_hoursLine.2.1 5 = .ok (.iconst 1, 1) := by decide +kernel
theorem d_M_hoursLine_6 : decode m_M_hoursLine.2.1 6 = .ok (.iadd, 1) := by decide +kernel
theorem d_M_hoursLine_7 : decode m_M_hoursLine.2.1 7 = .ok (.putfield 71, 3) := by decide +kernel
theorem d_M_hoursLine_10 : decode m_M_hoursLine.2.1 10 = .ok (.aload_n 0, 1) := by decide +kernel
theorem d_M_hoursLine_11 : decode m_M_hoursLine.2.1 11 = .ok (.invokevirtual 116, 3) := by decide +kernel
theorem d_M_hoursLine_14 : decode m_M_hoursLine.2.1 14 = .ok (.istore_n 1, 1) := by decide +kernel
theorem d_M_hoursLine_15 : decode m_M_hoursLine.2.1 15 = .ok (.aload_n 0, 1) := by decide +kernel
theorem d_M_hoursLine_16 : decode m_M_hoursLine.2.1 16 = .ok (.iload_n 1, 1) := by decide +kernel
theorem d_M_hoursLine_17 : decode m_M_hoursLine.2.1 17 = .ok (.invokevirtual 129, 3) := by decide +kernel
theorem d_M_hoursLine_20 : decode m_M_hoursLine.2.1 20 = .ok (.istore_n 2, 1) := by decide +kernel
theorem d_M_hoursLine_21 : decode m_M_hoursLine.2.1 21 = .ok (.iload_n 2, 1) := by decide +kernel
theorem d_M_hoursLine_22 : decode m_M_hoursLine.2.1 22 = .ok (.ifCond .lt 18, 3) := by decide +kernel
theorem d_M_hoursLine_25 : decode m_M_hoursLine.2.1 25 = .ok (.aload_n 0, 1) := by decide +kernel
theorem d_M_hoursLine_26 : decode m_M_hoursLine.2.1 26 = .ok (.getfield 80, 3) := by decide +kernel
theorem d_M_hoursLine_29 : decode m_M_hoursLine.2.1 29 = .ok (.bipush 8, 2) := by decide +kernel
theorem d_M_hoursLine_31 : decode m_M_hoursLine.2.1 31 = .ok (.iload_n 2, 1) := by decide +kernel
theorem d_M_hoursLine_32 : decode m_M_hoursLine.2.1 32 = .ok (.imul, 1) := by decide +kernel
theorem d_M_hoursLine_33 : decode m_M_hoursLine.2.1 33 = .ok (.bipush 7, 2) := by decide +kernel
theorem d_M_hoursLine_35 : decode m_M_hoursLine.2.1 35 = .ok (.iadd, 1) := by decide +kernel
theorem d_M_hoursLine_36 : decode m_M_hoursLine.2.1 36 = .ok (.iaload, 1) := by decide +kernel
theorem d_M_hoursLine_37 : decode m_M_hoursLine.2.1 37 = .ok (.ifCond .lt 12, 3) := by decide +kernel
theorem d_M_hoursLine_40 : decode m_M_hoursLine.2.1 40 = .ok (.aload_n 0, 1) := by decide +kernel
theorem d_M_hoursLine_41 : decode m_M_hoursLine.2.1 41 = .ok (.aload_n 0, 1) := by decide +kernel
theorem d_M_hoursLine_42 : decode m_M_hoursLine.2.1 42 = .ok (.getfield 71, 3) := by decide +kernel
theorem d_M_hoursLine_45 : decode m_M_hoursLine.2.1 45 = .ok (.invokevirtual 120, 3) := by decide +kernel
theorem d_M_hoursLine_48 : decode m_M_hoursLine.2.1 48 = .ok (.return_, 1) := by decide +kernel
theorem d_M_hoursLine_49 : decode m_M_hoursLine.2.1 49 = .ok (.aload_n 0, 1) := by decide +kernel
theorem d_M_hoursLine_50 : decode m_M_hoursLine.2.1 50 = .ok (.dup, 1) := by decide +kernel
theorem d_M_hoursLine_51 : decode m_M_hoursLine.2.1 51 = .ok (.getfield 71, 3) := by decide +kernel
theorem d_M_hoursLine_54 : decode m_M_hoursLine.2.1 54 = .ok (.iconst 1, 1) := by decide +kernel
theorem d_M_hoursLine_55 : decode m_M_hoursLine.2.1 55 = .ok (.iadd, 1) := by decide +kernel
theorem d_M_hoursLine_56 : decode m_M_hoursLine.2.1 56 = .ok (.putfield 71, 3) := by decide +kernel
theorem d_M_hoursLine_59 : decode m_M_hoursLine.2.1 59 = .ok (.aload_n 0, 1) := by decide +kernel
theorem d_M_hoursLine_60 : decode m_M_hoursLine.2.1 60 = .ok (.bipush 58, 2) := by decide +kernel
theorem d_M_hoursLine_62 : decode m_M_hoursLine.2.1 62 = .ok (.invokevirtual 133, 3) := by decide +kernel
theorem d_M_hoursLine_65 : decode m_M_hoursLine.2.1 65 = .ok (.aload_n 0, 1) := by decide +kernel
theorem d_M_hoursLine_66 : decode m_M_hoursLine.2.1 66 = .ok (.iconst 2, 1) := by decide +kernel
theorem d_M_hoursLine_67 : decode m_M_hoursLine.2.1 67 = .ok (.iconst 0, 1) := by decide +kernel
theorem d_M_hoursLine_68 : decode m_M_hoursLine.2.1 68 = .ok (.bipush 23, 2) := by decide +kernel
theorem d_M_hoursLine_70 : decode m_M_hoursLine.2.1 70 = .ok (.invokevirtual 140, 3) := by decide +kernel
theorem d_M_hoursLine_73 : decode m_M_hoursLine.2.1 73 = .ok (.istore_n 3, 1) := by decide +kernel
theorem d_M_hoursLine_74 : decode m_M_hoursLine.2.1 74 = .ok (.aload_n 0, 1) := by decide +kernel
theorem d_M_hoursLine_75 : decode m_M_hoursLine.2.1 75 = .ok (.bipush 45, 2) := by decide +kernel
theorem d_M_hoursLine_77 : decode m_M_hoursLine.2.1 77 = .ok (.invokevirtual 133, 3) := by decide +kernel
theorem d_M_hoursLine_80 : decode m_M_hoursLine.2.1 80 = .ok (.aload_n 0, 1) := by decide +kernel
theorem d_M_hoursLine_81 : decode m_M_hoursLine.2.1 81 = .ok (.iconst 2, 1) := by decide +kernel
theorem d_M_hoursLine_82 : decode m_M_hoursLine.2.1 82 = .ok (.iload_n 3, 1) := by decide +kernel
theorem d_M_hoursLine_83 : decode m_M_hoursLine.2.1 83 = .ok (.iconst 1, 1) := by decide +kernel
theorem d_M_hoursLine_84 : decode m_M_hoursLine.2.1 84 = .ok (.iadd, 1) := by decide +kernel
theorem d_M_hoursLine_85 : decode m_M_hoursLine.2.1 85 = .ok (.bipush 24, 2) := by decide +kernel
theorem d_M_hoursLine_87 : decode m_M_hoursLine.2.1 87 = .ok (.invokevirtual 140, 3) := by decide +kernel
theorem d_M_hoursLine_90 : decode m_M_hoursLine.2.1 90 = .ok (.istore 4, 2) := by decide +kernel
theorem d_M_hoursLine_92 : decode m_M_hoursLine.2.1 92 = .ok (.aload_n 0, 1) := by decide +kernel
theorem d_M_hoursLine_93 : decode m_M_hoursLine.2.1 93 = .ok (.getfield 74, 3) := by decide +kernel
theorem d_M_hoursLine_96 : decode m_M_hoursLine.2.1 96 = .ok (.ifCond .ge 22, 3) := by decide +kernel
theorem d_M_hoursLine_99 : decode m_M_hoursLine.2.1 99 = .ok (.aload_n 0, 1) := by decide +kernel
theorem d_M_hoursLine_100 : decode m_M_hoursLine.2.1 100 = .ok (.getfield 80, 3) := by decide +kernel
theorem d_M_hoursLine_103 : decode m_M_hoursLine.2.1 103 = .ok (.bipush 8, 2) := by decide +kernel
theorem d_M_hoursLine_105 : decode m_M_hoursLine.2.1 105 = .ok (.iload_n 2, 1) := by decide +kernel
theorem d_M_hoursLine_106 : decode m_M_hoursLine.2.1 106 = .ok (.imul, 1) := by decide +kernel
theorem d_M_hoursLine_107 : decode m_M_hoursLine.2.1 107 = .ok (.bipush 7, 2) := by decide +kernel
theorem d_M_hoursLine_109 : decode m_M_hoursLine.2.1 109 = .ok (.iadd, 1) := by decide +kernel
theorem d_M_hoursLine_110 : decode m_M_hoursLine.2.1 110 = .ok (.bipush 100, 2) := by decide +kernel
theorem d_M_hoursLine_112 : decode m_M_hoursLine.2.1 112 = .ok (.iload_n 3, 1) := by decide +kernel
theorem d_M_hoursLine_113 : decode m_M_hoursLine.2.1 113 = .ok (.imul, 1) := by decide +kernel
theorem d_M_hoursLine_114 : decode m_M_hoursLine.2.1 114 = .ok (.iload 4, 2) := by decide +kernel
theorem d_M_hoursLine_116 : decode m_M_hoursLine.2.1 116 = .ok (.iadd, 1) := by decide +kernel
theorem d_M_hoursLine_117 : decode m_M_hoursLine.2.1 117 = .ok (.iastore, 1) := by decide +kernel
theorem d_M_hoursLine_118 : decode m_M_hoursLine.2.1 118 = .ok (.return_, 1) := by decide +kernel
theorem d_M_keepEdition_0 : decode m_M_keepEdition.2.1 0 = .ok (.aload_n 0, 1) := by decide +kernel
theorem d_M_keepEdition_1 : decode m_M_keepEdition.2.1 1 = .ok (.getfield 23, 3) := by decide +kernel
theorem d_M_keepEdition_4 : decode m_M_keepEdition.2.1 4 = .ok (.iload_n 1, 1) := by decide +kernel
theorem d_M_keepEdition_5 : decode m_M_keepEdition.2.1 5 = .ok (.iload_n 2, 1) := by decide +kernel
theorem d_M_keepEdition_6 : decode m_M_keepEdition.2.1 6 = .ok (.iastore, 1) := by decide +kernel
theorem d_M_keepEdition_7 : decode m_M_keepEdition.2.1 7 = .ok (.aload_n 0, 1) := by decide +kernel
theorem d_M_keepEdition_8 : decode m_M_keepEdition.2.1 8 = .ok (.getfield 29, 3) := by decide +kernel
theorem d_M_keepEdition_11 : decode m_M_keepEdition.2.1 11 = .ok (.iload_n 1, 1) := by decide +kernel
theorem d_M_keepEdition_12 : decode m_M_keepEdition.2.1 12 = .ok (.aload_n 0, 1) := by decide +kernel
theorem d_M_keepEdition_13 : decode m_M_keepEdition.2.1 13 = .ok (.getfield 77, 3) := by decide +kernel
theorem d_M_keepEdition_16 : decode m_M_keepEdition.2.1 16 = .ok (.iastore, 1) := by decide +kernel
theorem d_M_keepEdition_17 : decode m_M_keepEdition.2.1 17 = .ok (.iconst 0, 1) := by decide +kernel
theorem d_M_keepEdition_18 : decode m_M_keepEdition.2.1 18 = .ok (.istore_n 3, 1) := by decide +kernel
theorem d_M_keepEdition_19 : decode m_M_keepEdition.2.1 19 = .ok (.iload_n 3, 1) := by decide +kernel
theorem d_M_keepEdition_20 : decode m_M_keepEdition.2.1 20 = .ok (.aload_n 0, 1) := by decide +kernel
theorem d_M_keepEdition_21 : decode m_M_keepEdition.2.1 21 = .ok (.getfield 77, 3) := by decide +kernel
theorem d_M_keepEdition_24 : decode m_M_keepEdition.2.1 24 = .ok (.if_icmp .ge 191, 3) := by decide +kernel
theorem d_M_keepEdition_27 : decode m_M_keepEdition.2.1 27 = .ok (.bipush 8, 2) := by decide +kernel
theorem d_M_keepEdition_29 : decode m_M_keepEdition.2.1 29 = .ok (.iload_n 1, 1) := by decide +kernel
theorem d_M_keepEdition_30 : decode m_M_keepEdition.2.1 30 = .ok (.imul, 1) := by decide +kernel
theorem d_M_keepEdition_31 : decode m_M_keepEdition.2.1 31 = .ok (.iload_n 3, 1) := by decide +kernel
theorem d_M_keepEdition_32 : decode m_M_keepEdition.2.1 32 = .ok (.iadd, 1) := by decide +kernel
theorem d_M_keepEdition_33 : decode m_M_keepEdition.2.1 33 = .ok (.istore 4, 2) := by decide +kernel
theorem d_M_keepEdition_35 : decode m_M_keepEdition.2.1 35 = .ok (.aload_n 0, 1) := by decide +kernel
theorem d_M_keepEdition_36 : decode m_M_keepEdition.2.1 36 = .ok (.getfield 32, 3) := by decide +kernel
theorem d_M_keepEdition_39 : decode m_M_keepEdition.2.1 39 = .ok (.iload 4, 2) := by decide +kernel
theorem d_M_keepEdition_41 : decode m_M_keepEdition.2.1 41 = .ok (.aload_n 0, 1) := by decide +kernel
theorem d_M_keepEdition_42 : decode m_M_keepEdition.2.1 42 = .ok (.getfield 80, 3) := by decide +kernel
theorem d_M_keepEdition_45 : decode m_M_keepEdition.2.1 45 = .ok (.bipush 8, 2) := by decide +kernel
theorem d_M_keepEdition_47 : decode m_M_keepEdition.2.1 47 = .ok (.iload_n 3, 1) := by decide +kernel
theorem d_M_keepEdition_48 : decode m_M_keepEdition.2.1 48 = .ok (.imul, 1) := by decide +kernel
theorem d_M_keepEdition_49 : decode m_M_keepEdition.2.1 49 = .ok (.iaload, 1) := by decide +kernel
theorem d_M_keepEdition_50 : decode m_M_keepEdition.2.1 50 = .ok (.iastore, 1) := by decide +kernel
theorem d_M_keepEdition_51 : decode m_M_keepEdition.2.1 51 = .ok (.aload_n 0, 1) := by decide +kernel
theorem d_M_keepEdition_52 : decode m_M_keepEdition.2.1 52 = .ok (.getfield 35, 3) := by decide +kernel
theorem d_M_keepEdition_55 : decode m_M_keepEdition.2.1 55 = .ok (.iload 4, 2) := by decide +kernel
theorem d_M_keepEdition_57 : decode m_M_keepEdition.2.1 57 = .ok (.aload_n 0, 1) := by decide +kernel
theorem d_M_keepEdition_58 : decode m_M_keepEdition.2.1 58 = .ok (.getfield 80, 3) := by decide +kernel
theorem d_M_keepEdition_61 : decode m_M_keepEdition.2.1 61 = .ok (.bipush 8, 2) := by decide +kernel
theorem d_M_keepEdition_63 : decode m_M_keepEdition.2.1 63 = .ok (.iload_n 3, 1) := by decide +kernel
theorem d_M_keepEdition_64 : decode m_M_keepEdition.2.1 64 = .ok (.imul, 1) := by decide +kernel
theorem d_M_keepEdition_65 : decode m_M_keepEdition.2.1 65 = .ok (.iconst 1, 1) := by decide +kernel
theorem d_M_keepEdition_66 : decode m_M_keepEdition.2.1 66 = .ok (.iadd, 1) := by decide +kernel
theorem d_M_keepEdition_67 : decode m_M_keepEdition.2.1 67 = .ok (.iaload, 1) := by decide +kernel
theorem d_M_keepEdition_68 : decode m_M_keepEdition.2.1 68 = .ok (.iastore, 1) := by decide +kernel
theorem d_M_keepEdition_69 : decode m_M_keepEdition.2.1 69 = .ok (.aload_n 0, 1) := by decide +kernel
theorem d_M_keepEdition_70 : decode m_M_keepEdition.2.1 70 = .ok (.getfield 41, 3) := by decide +kernel
theorem d_M_keepEdition_73 : decode m_M_keepEdition.2.1 73 = .ok (.iload 4, 2) := by decide +kernel
theorem d_M_keepEdition_75 : decode m_M_keepEdition.2.1 75 = .ok (.aload_n 0, 1) := by decide +kernel
theorem d_M_keepEdition_76 : decode m_M_keepEdition.2.1 76 = .ok (.getfield 80, 3) := by decide +kernel
theorem d_M_keepEdition_79 : decode m_M_keepEdition.2.1 79 = .ok (.bipush 8, 2) := by decide +kernel
theorem d_M_keepEdition_81 : decode m_M_keepEdition.2.1 81 = .ok (.iload_n 3, 1) := by decide +kernel
theorem d_M_keepEdition_82 : decode m_M_keepEdition.2.1 82 = .ok (.imul, 1) := by decide +kernel
theorem d_M_keepEdition_83 : decode m_M_keepEdition.2.1 83 = .ok (.iconst 2, 1) := by decide +kernel
theorem d_M_keepEdition_84 : decode m_M_keepEdition.2.1 84 = .ok (.iadd, 1) := by decide +kernel
theorem d_M_keepEdition_85 : decode m_M_keepEdition.2.1 85 = .ok (.iaload, 1) := by decide +kernel
theorem d_M_keepEdition_86 : decode m_M_keepEdition.2.1 86 = .ok (.iastore, 1) := by decide +kernel
theorem d_M_keepEdition_87 : decode m_M_keepEdition.2.1 87 = .ok (.aload_n 0, 1) := by decide +kernel
theorem d_M_keepEdition_88 : decode m_M_keepEdition.2.1 88 = .ok (.getfield 44, 3) := by decide +kernel
theorem d_M_keepEdition_91 : decode m_M_keepEdition.2.1 91 = .ok (.iload 4, 2) := by decide +kernel
theorem d_M_keepEdition_93 : decode m_M_keepEdition.2.1 93 = .ok (.aload_n 0, 1) := by decide +kernel
theorem d_M_keepEdition_94 : decode m_M_keepEdition.2.1 94 = .ok (.getfield 80, 3) := by decide +kernel
theorem d_M_keepEdition_97 : decode m_M_keepEdition.2.1 97 = .ok (.bipush 8, 2) := by decide +kernel
theorem d_M_keepEdition_99 : decode m_M_keepEdition.2.1 99 = .ok (.iload_n 3, 1) := by decide +kernel
theorem d_M_keepEdition_100 : decode m_M_keepEdition.2.1 100 = .ok (.imul, 1) := by decide +kernel
theorem d_M_keepEdition_101 : decode m_M_keepEdition.2.1 101 = .ok (.iconst 3, 1) := by decide +kernel
theorem d_M_keepEdition_102 : decode m_M_keepEdition.2.1 102 = .ok (.iadd, 1) := by decide +kernel
theorem d_M_keepEdition_103 : decode m_M_keepEdition.2.1 103 = .ok (.iaload, 1) := by decide +kernel
theorem d_M_keepEdition_104 : decode m_M_keepEdition.2.1 104 = .ok (.iastore, 1) := by decide +kernel
theorem d_M_keepEdition_105 : decode m_M_keepEdition.2.1 105 = .ok (.aload_n 0, 1) := by decide +kernel
theorem d_M_keepEdition_106 : decode m_M_keepEdition.2.1 106 = .ok (.getfield 38, 3) := by decide +kernel
theorem d_M_keepEdition_109 : decode m_M_keepEdition.2.1 109 = .ok (.iload 4, 2) := by decide +kernel
theorem d_M_keepEdition_111 : decode m_M_keepEdition.2.1 111 = .ok (.aload_n 0, 1) := by decide +kernel
theorem d_M_keepEdition_112 : decode m_M_keepEdition.2.1 112 = .ok (.getfield 80, 3) := by decide +kernel
theorem d_M_keepEdition_115 : decode m_M_keepEdition.2.1 115 = .ok (.bipush 8, 2) := by decide +kernel
theorem d_M_keepEdition_117 : decode m_M_keepEdition.2.1 117 = .ok (.iload_n 3, 1) := by decide +kernel
theorem d_M_keepEdition_118 : decode m_M_keepEdition.2.1 118 = .ok (.imul, 1) := by decide +kernel
theorem d_M_keepEdition_119 : decode m_M_keepEdition.2.1 119 = .ok (.iconst 4, 1) := by decide +kernel
theorem d_M_keepEdition_120 : decode m_M_keepEdition.2.1 120 = .ok (.iadd, 1) := by decide +kernel
theorem d_M_keepEdition_121 : decode m_M_keepEdition.2.1 121 = .ok (.iaload, 1) := by decide +kernel
theorem d_M_keepEdition_122 : decode m_M_keepEdition.2.1 122 = .ok (.iconst 1, 1) := by decide +kernel
theorem d_M_keepEdition_123 : decode m_M_keepEdition.2.1 123 = .ok (.ior, 1) := by decide +kernel
theorem d_M_keepEdition_124 : decode m_M_keepEdition.2.1 124 = .ok (.iastore, 1) := by decide +kernel
theorem d_M_keepEdition_125 : decode m_M_keepEdition.2.1 125 = .ok (.aload_n 0, 1) := by decide +kernel
theorem d_M_keepEdition_126 : decode m_M_keepEdition.2.1 126 = .ok (.getfield 47, 3) := by decide +kernel
theorem d_M_keepEdition_129 : decode m_M_keepEdition.2.1 129 = .ok (.iload 4, 2) := by decide +kernel
theorem d_M_keepEdition_131 : decode m_M_keepEdition.2.1 131 = .ok (.aload_n 0, 1) := by decide +kernel
theorem d_M_keepEdition_132 : decode m_M_keepEdition.2.1 132 = .ok (.getfield 80, 3) := by decide +kernel
theorem d_M_keepEdition_135 : decode m_M_keepEdition.2.1 135 = .ok (.bipush 8, 2) := by decide +kernel
theorem d_M_keepEdition_137 : decode m_M_keepEdition.2.1 137 = .ok (.iload_n 3, 1) := by decide +kernel
theorem d_M_keepEdition_138 : decode m_M_keepEdition.2.1 138 = .ok (.imul, 1) := by decide +kernel
theorem d_M_keepEdition_139 : decode m_M_keepEdition.2.1 139 = .ok (.iconst 5, 1) := by decide +kernel
theorem d_M_keepEdition_140 : decode m_M_keepEdition.2.1 140 = .ok (.iadd, 1) := by decide +kernel
theorem d_M_keepEdition_141 : decode m_M_keepEdition.2.1 141 = .ok (.iaload, 1) := by decide +kernel
theorem d_M_keepEdition_142 : decode m_M_keepEdition.2.1 142 = .ok (.iastore, 1) := by decide +kernel
theorem d_M_keepEdition_143 : decode m_M_keepEdition.2.1 143 = .ok (.aload_n 0, 1) := by decide +kernel
theorem d_M_keepEdition_144 : decode m_M_keepEdition.2.1 144 = .ok (.getfield 50, 3) := by decide +kernel
theorem d_M_keepEdition_147 : decode m_M_keepEdition.2.1 147 = .ok (.iload 4, 2) := by decide +kernel
theorem d_M_keepEdition_149 : decode m_M_keepEdition.2.1 149 = .ok (.aload_n 0, 1) := by decide +kernel
theorem d_M_keepEdition_150 : decode m_M_keepEdition.2.1 150 = .ok (.getfield 80, 3) := by decide +kernel
theorem d_M_keepEdition_153 : decode m_M_keepEdition.2.1 153 = .ok (.bipush 8, 2) := by decide +kernel
theorem d_M_keepEdition_155 : decode m_M_keepEdition.2.1 155 = .ok (.iload_n 3, 1) := by decide +kernel
theorem d_M_keepEdition_156 : decode m_M_keepEdition.2.1 156 = .ok (.imul, 1) := by decide +kernel
theorem d_M_keepEdition_157 : decode m_M_keepEdition.2.1 157 = .ok (.bipush 6, 2) := by decide +kernel
theorem d_M_keepEdition_159 : decode m_M_keepEdition.2.1 159 = .ok (.iadd, 1) := by decide +kernel
theorem d_M_keepEdition_160 : decode m_M_keepEdition.2.1 160 = .ok (.iaload, 1) := by decide +kernel
theorem d_M_keepEdition_161 : decode m_M_keepEdition.2.1 161 = .ok (.iastore, 1) := by decide +kernel
theorem d_M_keepEdition_162 : decode m_M_keepEdition.2.1 162 = .ok (.aload_n 0, 1) := by decide +kernel
theorem d_M_keepEdition_163 : decode m_M_keepEdition.2.1 163 = .ok (.getfield 80, 3) := by decide +kernel
theorem d_M_keepEdition_166 : decode m_M_keepEdition.2.1 166 = .ok (.bipush 8, 2) := by decide +kernel
theorem d_M_keepEdition_168 : decode m_M_keepEdition.2.1 168 = .ok (.iload_n 3, 1) := by decide +kernel
theorem d_M_keepEdition_169 : decode m_M_keepEdition.2.1 169 = .ok (.imul, 1) := by decide +kernel
theorem d_M_keepEdition_170 : decode m_M_keepEdition.2.1 170 = .ok (.bipush 7, 2) := by decide +kernel
theorem d_M_keepEdition_172 : decode m_M_keepEdition.2.1 172 = .ok (.iadd, 1) := by decide +kernel
theorem d_M_keepEdition_173 : decode m_M_keepEdition.2.1 173 = .ok (.iaload, 1) := by decide +kernel
theorem d_M_keepEdition_174 : decode m_M_keepEdition.2.1 174 = .ok (.istore 5, 2) := by decide +kernel
theorem d_M_keepEdition_176 : decode m_M_keepEdition.2.1 176 = .ok (.aload_n 0, 1) := by decide +kernel
theorem d_M_keepEdition_177 : decode m_M_keepEdition.2.1 177 = .ok (.getfield 53, 3) := by decide +kernel
theorem d_M_keepEdition_180 : decode m_M_keepEdition.2.1 180 = .ok (.iload 4, 2) := by decide +kernel
theorem d_M_keepEdition_182 : decode m_M_keepEdition.2.1 182 = .ok (.iload 5, 2) := by decide +kernel
theorem d_M_keepEdition_184 : decode m_M_keepEdition.2.1 184 = .ok (.ifCond .ge 7, 3) := by decide +kernel
theorem d_M_keepEdition_187 : decode m_M_keepEdition.2.1 187 = .ok (.iconst (-1), 1) := by decide +kernel
theorem d_M_keepEdition_188 : decode m_M_keepEdition.2.1 188 = .ok (.goto 8, 3) := by decide +kernel
theorem d_M_keepEdition_191 : decode m_M_keepEdition.2.1 191 = .ok (.iload 5, 2) := by decide +kernel
theorem d_M_keepEdition_193 : decode m_M_keepEdition.2.1 193 = .ok (.bipush 100, 2) := by decide +kernel
theorem d_M_keepEdition_195 : decode m_M_keepEdition.2.1 195 = .ok (.idiv, 1) := by decide +kernel
theorem d_M_keepEdition_196 : decode m_M_keepEdition.2.1 196 = .ok (.iastore, 1) := by decide +kernel
theorem d_M_keepEdition_197 : decode m_M_keepEdition.2.1 197 = .ok (.aload_n 0, 1) := by decide +kernel
theorem d_M_keepEdition_198 : decode m_M_keepEdition.2.1 198 = .ok (.getfield 56, 3) := by decide +kernel
theorem d_M_keepEdition_201 : decode m_M_keepEdition.2.1 201 = .ok (.iload 4, 2) := by decide +kernel
theorem d_M_keepEdition_203 : decode m_M_keepEdition.2.1 203 = .ok (.iload 5, 2) := by decide +kernel
theorem d_M_keepEdition_205 : decode m_M_keepEdition.2.1 205 = .ok (.bipush 100, 2) := by decide +kernel
theorem d_M_keepEdition_207 : decode m_M_keepEdition.2.1 207 = .ok (.irem, 1) := by decide +kernel
theorem d_M_keepEdition_208 : decode m_M_keepEdition.2.1 208 = .ok (.iastore, 1) := by decide +kernel
theorem d_M_keepEdition_209 : decode m_M_keepEdition.2.1 209 = .ok (.iinc 3 1, 3) := by decide +kernel
theorem d_M_keepEdition_212 : decode m_M_keepEdition.2.1 212 = .ok (.goto (-193), 3) := by decide +kernel
theorem d_M_keepEdition_215 : decode m_M_keepEdition.2.1 215 = .ok (.aload_n 0, 1) := by decide +kernel
theorem d_M_keepEdition_216 : decode m_M_keepEdition.2.1 216 = .ok (.getfield 59, 3) := by decide +kernel
theorem d_M_keepEdition_219 : decode m_M_keepEdition.2.1 219 = .ok (.iload_n 1, 1) := by decide +kernel
theorem d_M_keepEdition_220 : decode m_M_keepEdition.2.1 220 = .ok (.aload_n 0, 1) := by decide +kernel
theorem d_M_keepEdition_221 : decode m_M_keepEdition.2.1 221 = .ok (.getfield 83, 3) := by decide +kernel
theorem d_M_keepEdition_224 : decode m_M_keepEdition.2.1 224 = .ok (.iastore, 1) := by decide +kernel
theorem d_M_keepEdition_225 : decode m_M_keepEdition.2.1 225 = .ok (.iconst 0, 1) := by decide +kernel
theorem d_M_keepEdition_226 : decode m_M_keepEdition.2.1 226 = .ok (.istore_n 3, 1) := by decide +kernel
theorem d_M_keepEdition_227 : decode m_M_keepEdition.2.1 227 = .ok (.iload_n 3, 1) := by decide +kernel
theorem d_M_keepEdition_228 : decode m_M_keepEdition.2.1 228 = .ok (.aload_n 0, 1) := by decide +kernel
theorem d_M_keepEdition_229 : decode m_M_keepEdition.2.1 229 = .ok (.getfield 83, 3) := by decide +kernel
theorem d_M_keepEdition_232 : decode m_M_keepEdition.2.1 232 = .ok (.if_icmp .ge 60, 3) := by decide +kernel
theorem d_M_keepEdition_235 : decode m_M_keepEdition.2.1 235 = .ok (.aload_n 0, 1) := by decide +kernel
theorem d_M_keepEdition_236 : decode m_M_keepEdition.2.1 236 = .ok (.getfield 62, 3) := by decide +kernel
theorem d_M_keepEdition_239 : decode m_M_keepEdition.2.1 239 = .ok (.bipush 8, 2) := by decide +kernel
theorem d_M_keepEdition_241 : decode m_M_keepEdition.2.1 241 = .ok (.iload_n 1, 1) := by decide +kernel
theorem d_M_keepEdition_242 : decode m_M_keepEdition.2.1 242 = .ok (.imul, 1) := by decide +kernel
theorem d_M_keepEdition_243 : decode m_M_keepEdition.2.1 243 = .ok (.iload_n 3, 1) := by decide +kernel
theorem d_M_keepEdition_244 : decode m_M_keepEdition.2.1 244 = .ok (.iadd, 1) := by decide +kernel
theorem d_M_keepEdition_245 : decode m_M_keepEdition.2.1 245 = .ok (.aload_n 0, 1) := by decide +kernel
theorem d_M_keepEdition_246 : decode m_M_keepEdition.2.1 246 = .ok (.getfield 86, 3) := by decide +kernel
theorem d_M_keepEdition_249 : decode m_M_keepEdition.2.1 249 = .ok (.iload_n 3, 1) := by decide +kernel
theorem d_M_keepEdition_250 : decode m_M_keepEdition.2.1 250 = .ok (.iaload, 1) := by decide +kernel
theorem d_M_keepEdition_251 : decode m_M_keepEdition.2.1 251 = .ok (.iastore, 1) := by decide +kernel
theorem d_M_keepEdition_252 : decode m_M_keepEdition.2.1 252 = .ok (.aload_n 0, 1) := by decide +kernel
theorem d_M_keepEdition_253 : decode m_M_keepEdition.2.1 253 = .ok (.getfield 65, 3) := by decide +kernel
theorem d_M_keepEdition_256 : decode m_M_keepEdition.2.1 256 = .ok (.bipush 8, 2) := by decide +kernel
theorem d_M_keepEdition_258 : decode m_M_keepEdition.2.1 258 = .ok (.iload_n 1, 1) := by decide +kernel
theorem d_M_keepEdition_259 : decode m_M_keepEdition.2.1 259 = .ok (.imul, 1) := by decide +kernel
theorem d_M_keepEdition_260 : decode m_M_keepEdition.2.1 260 = .ok (.iload_n 3, 1) := by decide +kernel
theorem d_M_keepEdition_261 : decode m_M_keepEdition.2.1 261 = .ok (.iadd, 1) := by decide +kernel
theorem d_M_keepEdition_262 : decode m_M_keepEdition.2.1 262 = .ok (.aload_n 0, 1) := by decide +kernel
theorem d_M_keepEdition_263 : decode m_M_keepEdition.2.1 263 = .ok (.getfield 89, 3) := by decide +kernel
theorem d_M_keepEdition_266 : decode m_M_keepEdition.2.1 266 = .ok (.iload_n 3, 1) := by decide +kernel
theorem d_M_keepEdition_267 : decode m_M_keepEdition.2.1 267 = .ok (.iaload, 1) := by decide +kernel
theorem d_M_keepEdition_268 : decode m_M_keepEdition.2.1 268 = .ok (.iastore, 1) := by decide +kernel
theorem d_M_keepEdition_269 : decode m_M_keepEdition.2.1 269 = .ok (.aload_n 0, 1) := by decide +kernel
theorem d_M_keepEdition_270 : decode m_M_keepEdition.2.1 270 = .ok (.getfield 68, 3) := by decide +kernel
theorem d_M_keepEdition_273 : decode m_M_keepEdition.2.1 273 = .ok (.bipush 8, 2) := by decide +kernel
theorem d_M_keepEdition_275 : decode m_M_keepEdition.2.1 275 = .ok (.iload_n 1, 1) := by decide +kernel
theorem d_M_keepEdition_276 : decode m_M_keepEdition.2.1 276 = .ok (.imul, 1) := by decide +kernel
theorem d_M_keepEdition_277 : decode m_M_keepEdition.2.1 277 = .ok (.iload_n 3, 1) := by decide +kernel
theorem d_M_keepEdition_278 : decode m_M_keepEdition.2.1 278 = .ok (.iadd, 1) := by decide +kernel
theorem d_M_keepEdition_279 : decode m_M_keepEdition.2.1 279 = .ok (.aload_n 0, 1) := by decide +kernel
theorem d_M_keepEdition_280 : decode m_M_keepEdition.2.1 280 = .ok (.getfield 92, 3) := by decide +kernel
theorem d_M_keepEdition_283 : decode m_M_keepEdition.2.1 283 = .ok (.iload_n 3, 1) := by decide +kernel
theorem d_M_keepEdition_284 : decode m_M_keepEdition.2.1 284 = .ok (.iaload, 1) := by decide +kernel
theorem d_M_keepEdition_285 : decode m_M_keepEdition.2.1 285 = .ok (.iastore, 1) := by decide +kernel
theorem d_M_keepEdition_286 : decode m_M_keepEdition.2.1 286 = .ok (.iinc 3 1, 3) := by decide +kernel
theorem d_M_keepEdition_289 : decode m_M_keepEdition.2.1 289 = .ok (.goto (-62), 3) := by decide +kernel
theorem d_M_keepEdition_292 : decode m_M_keepEdition.2.1 292 = .ok (.return_, 1) := by decide +kernel
theorem d_M_today_0 : decode m_M_today.2.1 0 = .ok (.aload_n 0, 1) := by decide +kernel
theorem d_M_today_1 : decode m_M_today.2.1 1 = .ok (.iload_n 1, 1) := by decide +kernel
theorem d_M_today_2 : decode m_M_today.2.1 2 = .ok (.iconst 0, 1) := by decide +kernel
theorem d_M_today_3 : decode m_M_today.2.1 3 = .ok (.sipush 1000, 3) := by decide +kernel
theorem d_M_today_6 : decode m_M_today.2.1 6 = .ok (.invokestatic 156, 3) := by decide +kernel
theorem d_M_today_9 : decode m_M_today.2.1 9 = .ok (.ifCond .eq 7, 3) := by decide +kernel
theorem d_M_today_12 : decode m_M_today.2.1 12 = .ok (.iconst 1, 1) := by decide +kernel
theorem d_M_today_13 : decode m_M_today.2.1 13 = .ok (.goto 4, 3) := by decide +kernel
theorem d_M_today_16 : decode m_M_today.2.1 16 = .ok (.iconst 0, 1) := by decide +kernel
theorem d_M_today_17 : decode m_M_today.2.1 17 = .ok (.putfield 7, 3) := by decide +kernel
theorem d_M_today_20 : decode m_M_today.2.1 20 = .ok (.aload_n 0, 1) := by decide +kernel
theorem d_M_today_21 : decode m_M_today.2.1 21 = .ok (.getfield 7, 3) := by decide +kernel
theorem d_M_today_24 : decode m_M_today.2.1 24 = .ok (.ifCond .eq 5, 3) := by decide +kernel
theorem d_M_today_27 : decode m_M_today.2.1 27 = .ok (.iconst 0, 1) := by decide +kernel
theorem d_M_today_28 : decode m_M_today.2.1 28 = .ok (.ireturn, 1) := by decide +kernel
theorem d_M_today_29 : decode m_M_today.2.1 29 = .ok (.aload_n 0, 1) := by decide +kernel
theorem d_M_today_30 : decode m_M_today.2.1 30 = .ok (.iload_n 1, 1) := by decide +kernel
theorem d_M_today_31 : decode m_M_today.2.1 31 = .ok (.putfield 26, 3) := by decide +kernel
theorem d_M_today_34 : decode m_M_today.2.1 34 = .ok (.aload_n 0, 1) := by decide +kernel
theorem d_M_today_35 : decode m_M_today.2.1 35 = .ok (.iconst 0, 1) := by decide +kernel
theorem d_M_today_36 : decode m_M_today.2.1 36 = .ok (.putfield 98, 3) := by decide +kernel
theorem d_M_today_39 : decode m_M_today.2.1 39 = .ok (.aload_n 0, 1) := by decide +kernel
theorem d_M_today_40 : decode m_M_today.2.1 40 = .ok (.invokevirtual 167, 3) := by decide +kernel
theorem d_M_today_43 : decode m_M_today.2.1 43 = .ok (.iconst 1, 1) := by decide +kernel
theorem d_M_today_44 : decode m_M_today.2.1 44 = .ok (.iadd, 1) := by decide +kernel
theorem d_M_today_45 : decode m_M_today.2.1 45 = .ok (.ireturn, 1) := by decide +kernel
theorem d_M_acting_0 : decode m_M_acting.2.1 0 = .ok (.iconst (-1), 1) := by decide +kernel
theorem d_M_acting_1 : decode m_M_acting.2.1 1 = .ok (.istore_n 1, 1) := by decide +kernel
theorem d_M_acting_2 : decode m_M_acting.2.1 2 = .ok (.iconst 0, 1) := by decide +kernel
theorem d_M_acting_3 : decode m_M_acting.2.1 3 = .ok (.istore_n 2, 1) := by decide +kernel
theorem d_M_acting_4 : decode m_M_acting.2.1 4 = .ok (.iload_n 2, 1) := by decide +kernel
theorem d_M_acting_5 : decode m_M_acting.2.1 5 = .ok (.aload_n 0, 1) := by decide +kernel
theorem d_M_acting_6 : decode m_M_acting.2.1 6 = .ok (.getfield 20, 3) := by decide +kernel
theorem d_M_acting_9 : decode m_M_acting.2.1 9 = .ok (.if_icmp .ge 43, 3) := by decide +kernel
theorem d_M_acting_12 : decode m_M_acting.2.1 12 = .ok (.aload_n 0, 1) := by decide +kernel
theorem d_M_acting_13 : decode m_M_acting.2.1 13 = .ok (.getfield 23, 3) := by decide +kernel
theorem d_M_acting_16 : decode m_M_acting.2.1 16 = .ok (.iload_n 2, 1) := by decide +kernel
theorem d_M_acting_17 : decode m_M_acting.2.1 17 = .ok (.iaload, 1) := by decide +kernel
theorem d_M_acting_18 : decode m_M_acting.2.1 18 = .ok (.aload_n 0, 1) := by decide +kernel
theorem d_M_acting_19 : decode m_M_acting.2.1 19 = .ok (.getfield 26, 3) := by decide +kernel
theorem d_M_acting_22 : decode m_M_acting.2.1 22 = .ok (.if_icmp .gt 24, 3) := by decide +kernel
theorem d_M_acting_25 : decode m_M_acting.2.1 25 = .ok (.iload_n 1, 1) := by decide +kernel
theorem d_M_acting_26 : decode m_M_acting.2.1 26 = .ok (.ifCond .lt 18, 3) := by decide +kernel
theorem d_M_acting_29 : decode m_M_acting.2.1 29 = .ok (.aload_n 0, 1) := by decide +kernel
theorem d_M_acting_30 : decode m_M_acting.2.1 30 = .ok (.getfield 23, 3) := by decide +kernel
theorem d_M_acting_33 : decode m_M_acting.2.1 33 = .ok (.iload_n 2, 1) := by decide +kernel
theorem d_M_acting_34 : decode m_M_acting.2.1 34 = .ok (.iaload, 1) := by decide +kernel
theorem d_M_acting_35 : decode m_M_acting.2.1 35 = .ok (.aload_n 0, 1) := by decide +kernel
theorem d_M_acting_36 : decode m_M_acting.2.1 36 = .ok (.getfield 23, 3) := by decide +kernel
theorem d_M_acting_39 : decode m_M_acting.2.1 39 = .ok (.iload_n 1, 1) := by decide +kernel
theorem d_M_acting_40 : decode m_M_acting.2.1 40 = .ok (.iaload, 1) := by decide +kernel
theorem d_M_acting_41 : decode m_M_acting.2.1 41 = .ok (.if_icmp .lt 5, 3) := by decide +kernel
theorem d_M_acting_44 : decode m_M_acting.2.1 44 = .ok (.iload_n 2, 1) := by decide +kernel
theorem d_M_acting_45 : decode m_M_acting.2.1 45 = .ok (.istore_n 1, 1) := by decide +kernel
theorem d_M_acting_46 : decode m_M_acting.2.1 46 = .ok (.iinc 2 1, 3) := by decide +kernel
theorem d_M_acting_49 : decode m_M_acting.2.1 49 = .ok (.goto (-45), 3) := by decide +kernel
theorem d_M_acting_52 : decode m_M_acting.2.1 52 = .ok (.iload_n 1, 1) := by decide +kernel
theorem d_M_acting_53 : decode m_M_acting.2.1 53 = .ok (.ireturn, 1) := by decide +kernel
theorem d_M_fits_0 : decode m_M_fits.2.1 0 = .ok (.aload_n 0, 1) := by decide +kernel
theorem d_M_fits_1 : decode m_M_fits.2.1 1 = .ok (.invokevirtual 167, 3) := by decide +kernel
theorem d_M_fits_4 : decode m_M_fits.2.1 4 = .ok (.istore 5, 2) := by decide +kernel
theorem d_M_fits_6 : decode m_M_fits.2.1 6 = .ok (.aload_n 0, 1) := by decide +kernel
theorem d_M_fits_7 : decode m_M_fits.2.1 7 = .ok (.iload_n 1, 1) := by decide +kernel
theorem d_M_fits_8 : decode m_M_fits.2.1 8 = .ok (.iconst 1, 1) := by decide +kernel
theorem d_M_fits_9 : decode m_M_fits.2.1 9 = .ok (.sipush 2000, 3) := by decide +kernel
theorem d_M_fits_12 : decode m_M_fits.2.1 12 = .ok (.invokestatic 156, 3) := by decide +kernel
theorem d_M_fits_15 : decode m_M_fits.2.1 15 = .ok (.ifCond .ne 35, 3) := by decide +kernel
theorem d_M_fits_18 : decode m_M_fits.2.1 18 = .ok (.iload_n 2, 1) := by decide +kernel
theorem d_M_fits_19 : decode m_M_fits.2.1 19 = .ok (.iconst 1, 1) := by decide +kernel
theorem d_M_fits_20 : decode m_M_fits.2.1 20 = .ok (.sipush 1000, 3) := by decide +kernel
theorem d_M_fits_23 : decode m_M_fits.2.1 23 = .ok (.invokestatic 156, 3) := by decide +kernel
theorem d_M_fits_26 : decode m_M_fits.2.1 26 = .ok (.ifCond .ne 24, 3) := by decide +kernel
theorem d_M_fits_29 : decode m_M_fits.2.1 29 = .ok (.iload_n 3, 1) := by decide +kernel
theorem d_M_fits_30 : decode m_M_fits.2.1 30 = .ok (.iconst 1, 1) := by decide +kernel
theorem d_M_fits_31 : decode m_M_fits.2.1 31 = .ok (.bipush 9, 2) := by decide +kernel
theorem d_M_fits_33 : decode m_M_fits.2.1 33 = .ok (.invokestatic 156, 3) := by decide +kernel
theorem d_M_fits_36 : decode m_M_fits.2.1 36 = .ok (.ifCond .ne 14, 3) := by decide +kernel
theorem d_M_fits_39 : decode m_M_fits.2.1 39 = .ok (.iload 4, 2) := by decide +kernel
theorem d_M_fits_41 : decode m_M_fits.2.1 41 = .ok (.iconst 0, 1) := by decide +kernel
theorem d_M_fits_42 : decode m_M_fits.2.1 42 = .ok (.bipush 9, 2) := by decide +kernel
theorem d_M_fits_44 : decode m_M_fits.2.1 44 = .ok (.invokestatic 156, 3) := by decide +kernel
theorem d_M_fits_47 : decode m_M_fits.2.1 47 = .ok (.ifCond .eq 7, 3) := by decide +kernel
theorem d_M_fits_50 : decode m_M_fits.2.1 50 = .ok (.iconst 1, 1) := by decide +kernel
theorem d_M_fits_51 : decode m_M_fits.2.1 51 = .ok (.goto 13, 3) := by decide +kernel
theorem d_M_fits_54 : decode m_M_fits.2.1 54 = .ok (.iload 5, 2) := by decide +kernel
theorem d_M_fits_56 : decode m_M_fits.2.1 56 = .ok (.ifCond .ge 7, 3) := by decide +kernel
theorem d_M_fits_59 : decode m_M_fits.2.1 59 = .ok (.iconst 2, 1) := by decide +kernel
theorem d_M_fits_60 : decode m_M_fits.2.1 60 = .ok (.goto 4, 3) := by decide +kernel
theorem d_M_fits_63 : decode m_M_fits.2.1 63 = .ok (.iconst 0, 1) := by decide +kernel
theorem d_M_fits_64 : decode m_M_fits.2.1 64 = .ok (.putfield 7, 3) := by decide +kernel
theorem d_M_fits_67 : decode m_M_fits.2.1 67 = .ok (.aload_n 0, 1) := by decide +kernel
theorem d_M_fits_68 : decode m_M_fits.2.1 68 = .ok (.getfield 7, 3) := by decide +kernel
theorem d_M_fits_71 : decode m_M_fits.2.1 71 = .ok (.ifCond .eq 5, 3) := by decide +kernel
theorem d_M_fits_74 : decode m_M_fits.2.1 74 = .ok (.iconst 0, 1) := by decide +kernel
theorem d_M_fits_75 : decode m_M_fits.2.1 75 = .ok (.ireturn, 1) := by decide +kernel
theorem d_M_fits_76 : decode m_M_fits.2.1 76 = .ok (.aload_n 0, 1) := by decide +kernel
theorem d_M_fits_77 : decode m_M_fits.2.1 77 = .ok (.iconst 0, 1) := by decide +kernel
theorem d_M_fits_78 : decode m_M_fits.2.1 78 = .ok (.putfield 98, 3) := by decide +kernel
theorem d_M_fits_81 : decode m_M_fits.2.1 81 = .ok (.bipush 8, 2) := by decide +kernel
theorem d_M_fits_83 : decode m_M_fits.2.1 83 = .ok (.iload 5, 2) := by decide +kernel
theorem d_M_fits_85 : decode m_M_fits.2.1 85 = .ok (.imul, 1) := by decide +kernel
theorem d_M_fits_86 : decode m_M_fits.2.1 86 = .ok (.istore 6, 2) := by decide +kernel
theorem d_M_fits_88 : decode m_M_fits.2.1 88 = .ok (.iload 6, 2) := by decide +kernel
theorem d_M_fits_90 : decode m_M_fits.2.1 90 = .ok (.bipush 8, 2) := by decide +kernel
theorem d_M_fits_92 : decode m_M_fits.2.1 92 = .ok (.iload 5, 2) := by decide +kernel
theorem d_M_fits_94 : decode m_M_fits.2.1 94 = .ok (.imul, 1) := by decide +kernel
theorem d_M_fits_95 : decode m_M_fits.2.1 95 = .ok (.aload_n 0, 1) := by decide +kernel
theorem d_M_fits_96 : decode m_M_fits.2.1 96 = .ok (.getfield 29, 3) := by decide +kernel
theorem d_M_fits_99 : decode m_M_fits.2.1 99 = .ok (.iload 5, 2) := by decide +kernel
theorem d_M_fits_101 : decode m_M_fits.2.1 101 = .ok (.iaload, 1) := by decide +kernel
theorem d_M_fits_102 : decode m_M_fits.2.1 102 = .ok (.iadd, 1) := by decide +kernel
theorem d_M_fits_103 : decode m_M_fits.2.1 103 = .ok (.if_icmp .ge 149, 3) := by decide +kernel
theorem d_M_fits_106 : decode m_M_fits.2.1 106 = .ok (.aload_n 0, 1) := by decide +kernel
theorem d_M_fits_107 : decode m_M_fits.2.1 107 = .ok (.getfield 35, 3) := by decide +kernel
theorem d_M_fits_110 : decode m_M_fits.2.1 110 = .ok (.iload 6, 2) := by decide +kernel
theorem d_M_fits_112 : decode m_M_fits.2.1 112 = .ok (.iaload, 1) := by decide +kernel
theorem d_M_fits_113 : decode m_M_fits.2.1 113 = .ok (.iload_n 3, 1) := by decide +kernel
theorem d_M_fits_114 : decode m_M_fits.2.1 114 = .ok (.ishr, 1) := by decide +kernel
theorem d_M_fits_115 : decode m_M_fits.2.1 115 = .ok (.iconst 1, 1) := by decide +kernel
theorem d_M_fits_116 : decode m_M_fits.2.1 116 = .ok (.iand, 1) := by decide +kernel
theorem d_M_fits_117 : decode m_M_fits.2.1 117 = .ok (.iconst 1, 1) := by decide +kernel
theorem d_M_fits_118 : decode m_M_fits.2.1 118 = .ok (.if_icmp .ne 128, 3) := by decide +kernel
theorem d_M_fits_121 : decode m_M_fits.2.1 121 = .ok (.aload_n 0, 1) := by decide +kernel
theorem d_M_fits_122 : decode m_M_fits.2.1 122 = .ok (.getfield 38, 3) := by decide +kernel
theorem d_M_fits_125 : decode m_M_fits.2.1 125 = .ok (.iload 6, 2) := by decide +kernel
theorem d_M_fits_127 : decode m_M_fits.2.1 127 = .ok (.iaload, 1) := by decide +kernel
theorem d_M_fits_128 : decode m_M_fits.2.1 128 = .ok (.iload 4, 2) := by decide +kernel
theorem d_M_fits_130 : decode m_M_fits.2.1 130 = .ok (.ishr, 1) := by decide +kernel
theorem d_M_fits_131 : decode m_M_fits.2.1 131 = .ok (.iconst 1, 1) := by decide +kernel
theorem d_M_fits_132 : decode m_M_fits.2.1 132 = .ok (.iand, 1) := by decide +kernel
theorem d_M_fits_133 : decode m_M_fits.2.1 133 = .ok (.iconst 1, 1) := by decide +kernel
theorem d_M_fits_134 : decode m_M_fits.2.1 134 = .ok (.if_icmp .ne 112, 3) := by decide +kernel
theorem d_M_fits_137 : decode m_M_fits.2.1 137 = .ok (.iload_n 1, 1) := by decide +kernel
theorem d_M_fits_138 : decode m_M_fits.2.1 138 = .ok (.aload_n 0, 1) := by decide +kernel
theorem d_M_fits_139 : decode m_M_fits.2.1 139 = .ok (.getfield 41, 3) := by decide +kernel
theorem d_M_fits_142 : decode m_M_fits.2.1 142 = .ok (.iload 6, 2) := by decide +kernel
theorem d_M_fits_144 : decode m_M_fits.2.1 144 = .ok (.iaload, 1) := by decide +kernel
theorem d_M_fits_145 : decode m_M_fits.2.1 145 = .ok (.if_icmp .gt 101, 3) := by decide +kernel
theorem d_M_fits_148 : decode m_M_fits.2.1 148 = .ok (.iload_n 2, 1) := by decide +kernel
theorem d_M_fits_149 : decode m_M_fits.2.1 149 = .ok (.aload_n 0, 1) := by decide +kernel
theorem d_M_fits_150 : decode m_M_fits.2.1 150 = .ok (.getfield 44, 3) := by decide +kernel
theorem d_M_fits_153 : decode m_M_fits.2.1 153 = .ok (.iload 6, 2) := by decide +kernel
theorem d_M_fits_155 : decode m_M_fits.2.1 155 = .ok (.iaload, 1) := by decide +kernel
theorem d_M_fits_156 : decode m_M_fits.2.1 156 = .ok (.if_icmp .gt 90, 3) := by decide +kernel
theorem d_M_fits_159 : decode m_M_fits.2.1 159 = .ok (.aload_n 0, 1) := by decide +kernel
theorem d_M_fits_160 : decode m_M_fits.2.1 160 = .ok (.getfield 98, 3) := by decide +kernel
theorem d_M_fits_163 : decode m_M_fits.2.1 163 = .ok (.istore 7, 2) := by decide +kernel
theorem d_M_fits_165 : decode m_M_fits.2.1 165 = .ok (.iload 7, 2) := by decide +kernel
theorem d_M_fits_167 : decode m_M_fits.2.1 167 = .ok (.ifCond .le 55, 3) := by decide +kernel
theorem d_M_fits_170 : decode m_M_fits.2.1 170 = .ok (.aload_n 0, 1) := by decide +kernel
theorem d_M_fits_171 : decode m_M_fits.2.1 171 = .ok (.aload_n 0, 1) := by decide +kernel
theorem d_M_fits_172 : decode m_M_fits.2.1 172 = .ok (.iload 5, 2) := by decide +kernel
theorem d_M_fits_174 : decode m_M_fits.2.1 174 = .ok (.aload_n 0, 1) := by decide +kernel
theorem d_M_fits_175 : decode m_M_fits.2.1 175 = .ok (.getfield 101, 3) := by decide +kernel
theorem d_M_fits_178 : decode m_M_fits.2.1 178 = .ok (.iload 7, 2) := by decide +kernel
theorem d_M_fits_180 : decode m_M_fits.2.1 180 = .ok (.iconst 1, 1) := by decide +kernel
theorem d_M_fits_181 : decode m_M_fits.2.1 181 = .ok (.isub, 1) := by decide +kernel
theorem d_M_fits_182 : decode m_M_fits.2.1 182 = .ok (.iaload, 1) := by decide +kernel
theorem d_M_fits_183 : decode m_M_fits.2.1 183 = .ok (.invokevirtual 170, 3) := by decide +kernel
theorem d_M_fits_186 : decode m_M_fits.2.1 186 = .ok (.iload_n 1, 1) := by decide +kernel
theorem d_M_fits_187 : decode m_M_fits.2.1 187 = .ok (.invokevirtual 174, 3) := by decide +kernel
theorem d_M_fits_190 : decode m_M_fits.2.1 190 = .ok (.aload_n 0, 1) := by decide +kernel
theorem d_M_fits_191 : decode m_M_fits.2.1 191 = .ok (.iload 6, 2) := by decide +kernel
theorem d_M_fits_193 : decode m_M_fits.2.1 193 = .ok (.iload_n 1, 1) := by decide +kernel
theorem d_M_fits_194 : decode m_M_fits.2.1 194 = .ok (.invokevirtual 174, 3) := by decide +kernel
theorem d_M_fits_197 : decode m_M_fits.2.1 197 = .ok (.if_icmp .le 25, 3) := by decide +kernel
theorem d_M_fits_200 : decode m_M_fits.2.1 200 = .ok (.aload_n 0, 1) := by decide +kernel
theorem d_M_fits_201 : decode m_M_fits.2.1 201 = .ok (.getfield 101, 3) := by decide +kernel
theorem d_M_fits_204 : decode m_M_fits.2.1 204 = .ok (.iload 7, 2) := by decide +kernel
theorem d_M_fits_206 : decode m_M_fits.2.1 206 = .ok (.aload_n 0, 1) := by decide +kernel
theorem d_M_fits_207 : decode m_M_fits.2.1 207 = .ok (.getfield 101, 3) := by decide +kernel
theorem d_M_fits_210 : decode m_M_fits.2.1 210 = .ok (.iload 7, 2) := by decide +kernel
theorem d_M_fits_212 : decode m_M_fits.2.1 212 = .ok (.iconst 1, 1) := by decide +kernel
theorem d_M_fits_213 : decode m_M_fits.2.1 213 = .ok (.isub, 1) := by decide +kernel
theorem d_M_fits_214 : decode m_M_fits.2.1 214 = .ok (.iaload, 1) := by decide +kernel
theorem d_M_fits_215 : decode m_M_fits.2.1 215 = .ok (.iastore, 1) := by decide +kernel
theorem d_M_fits_216 : decode m_M_fits.2.1 216 = .ok (.iinc 7 (-1), 3) := by decide +kernel
theorem d_M_fits_219 : decode m_M_fits.2.1 219 = .ok (.goto (-54), 3) := by decide +kernel
theorem d_M_fits_222 : decode m_M_fits.2.1 222 = .ok (.aload_n 0, 1) := by decide +kernel
theorem d_M_fits_223 : decode m_M_fits.2.1 223 = .ok (.getfield 101, 3) := by decide +kernel
theorem d_M_fits_226 : decode m_M_fits.2.1 226 = .ok (.iload 7, 2) := by decide +kernel
theorem d_M_fits_228 : decode m_M_fits.2.1 228 = .ok (.aload_n 0, 1) := by decide +kernel
theorem d_M_fits_229 : decode m_M_fits.2.1 229 = .ok (.getfield 32, 3) := by decide +kernel
theorem d_M_fits_232 : decode m_M_fits.2.1 232 = .ok (.iload 6, 2) := by decide +kernel
theorem d_M_fits_234 : decode m_M_fits.2.1 234 = .ok (.iaload, 1) := by decide +kernel
theorem d_M_fits_235 : decode m_M_fits.2.1 235 = .ok (.iastore, 1) := by decide +kernel
theorem d_M_fits_236 : decode m_M_fits.2.1 236 = .ok (.aload_n 0, 1) := by decide +kernel
theorem d_M_fits_237 : decode m_M_fits.2.1 237 = .ok (.dup, 1) := by decide +kernel
theorem d_M_fits_238 : decode m_M_fits.2.1 238 = .ok (.getfield 98, 3) := by decide +kernel
theorem d_M_fits_241 : decode m_M_fits.2.1 241 = .ok (.iconst 1, 1) := by decide +kernel
theorem d_M_fits_242 : decode m_M_fits.2.1 242 = .ok (.iadd, 1) := by decide +kernel
theorem d_M_fits_243 : decode m_M_fits.2.1 243 = .ok (.putfield 98, 3) := by decide +kernel
theorem d_M_fits_246 : decode m_M_fits.2.1 246 = .ok (.iinc 6 1, 3) := by decide +kernel
theorem d_M_fits_249 : decode m_M_fits.2.1 249 = .ok (.goto (-161), 3) := by decide +kernel
theorem d_M_fits_252 : decode m_M_fits.2.1 252 = .ok (.aload_n 0, 1) := by decide +kernel
theorem d_M_fits_253 : decode m_M_fits.2.1 253 = .ok (.getfield 98, 3) := by decide +kernel
theorem d_M_fits_256 : decode m_M_fits.2.1 256 = .ok (.ireturn, 1) := by decide +kernel
theorem d_M_find_0 : decode m_M_find.2.1 0 = .ok (.bipush 8, 2) := by decide +kernel
theorem d_M_find_2 : decode m_M_find.2.1 2 = .ok (.iload_n 1, 1) := by decide +kernel
theorem d_M_find_3 : decode m_M_find.2.1 3 = .ok (.imul, 1) := by decide +kernel
theorem d_M_find_4 : decode m_M_find.2.1 4 = .ok (.istore_n 3, 1) := by decide +kernel
theorem d_M_find_5 : decode m_M_find.2.1 5 = .ok (.iload_n 3, 1) := by decide +kernel
theorem d_M_find_6 : decode m_M_find.2.1 6 = .ok (.bipush 8, 2) := by decide +kernel
theorem d_M_find_8 : decode m_M_find.2.1 8 = .ok (.iload_n 1, 1) := by decide +kernel
theorem d_M_find_9 : decode m_M_find.2.1 9 = .ok (.imul, 1) := by decide +kernel
theorem d_M_find_10 : decode m_M_find.2.1 10 = .ok (.aload_n 0, 1) := by decide +kernel
theorem d_M_find_11 : decode m_M_find.2.1 11 = .ok (.getfield 29, 3) := by decide +kernel
theorem d_M_find_14 : decode m_M_find.2.1 14 = .ok (.iload_n 1, 1) := by decide +kernel
theorem d_M_find_15 : decode m_M_find.2.1 15 = .ok (.iaload, 1) := by decide +kernel
theorem d_M_find_16 : decode m_M_find.2.1 16 = .ok (.iadd, 1) := by decide +kernel
theorem d_M_find_17 : decode m_M_find.2.1 17 = .ok (.if_icmp .ge 21, 3) := by decide +kernel
theorem d_M_find_20 : decode m_M_find.2.1 20 = .ok (.aload_n 0, 1) := by decide +kernel
theorem d_M_find_21 : decode m_M_find.2.1 21 = .ok (.getfield 32, 3) := by decide +kernel
theorem d_M_find_24 : decode m_M_find.2.1 24 = .ok (.iload_n 3, 1) := by decide +kernel
theorem d_M_find_25 : decode m_M_find.2.1 25 = .ok (.iaload, 1) := by decide +kernel
theorem d_M_find_26 : decode m_M_find.2.1 26 = .ok (.iload_n 2, 1) := by decide +kernel
theorem d_M_find_27 : decode m_M_find.2.1 27 = .ok (.if_icmp .ne 5, 3) := by decide +kernel
theorem d_M_find_30 : decode m_M_find.2.1 30 = .ok (.iload_n 3, 1) := by decide +kernel
theorem d_M_find_31 : decode m_M_find.2.1 31 = .ok (.ireturn, 1) := by decide +kernel
theorem d_M_find_32 : decode m_M_find.2.1 32 = .ok (.iinc 3 1, 3) := by decide +kernel
theorem d_M_find_35 : decode m_M_find.2.1 35 = .ok (.goto (-30), 3) := by decide +kernel
theorem d_M_find_38 : decode m_M_find.2.1 38 = .ok (.iconst (-1), 1) := by decide +kernel
theorem d_M_find_39 : decode m_M_find.2.1 39 = .ok (.ireturn, 1) := by decide +kernel
theorem d_M_priceOf_0 : decode m_M_priceOf.2.1 0 = .ok (.aload_n 0, 1) := by decide +kernel
theorem d_M_priceOf_1 : decode m_M_priceOf.2.1 1 = .ok (.getfield 47, 3) := by decide +kernel
theorem d_M_priceOf_4 : decode m_M_priceOf.2.1 4 = .ok (.iload_n 1, 1) := by decide +kernel
theorem d_M_priceOf_5 : decode m_M_priceOf.2.1 5 = .ok (.iaload, 1) := by decide +kernel
theorem d_M_priceOf_6 : decode m_M_priceOf.2.1 6 = .ok (.aload_n 0, 1) := by decide +kernel
theorem d_M_priceOf_7 : decode m_M_priceOf.2.1 7 = .ok (.getfield 50, 3) := by decide +kernel
theorem d_M_priceOf_10 : decode m_M_priceOf.2.1 10 = .ok (.iload_n 1, 1) := by decide +kernel
theorem d_M_priceOf_11 : decode m_M_priceOf.2.1 11 = .ok (.iaload, 1) := by decide +kernel
theorem d_M_priceOf_12 : decode m_M_priceOf.2.1 12 = .ok (.iload_n 2, 1) := by decide +kernel
theorem d_M_priceOf_13 : decode m_M_priceOf.2.1 13 = .ok (.bipush 9, 2) := by decide +kernel
theorem d_M_priceOf_15 : decode m_M_priceOf.2.1 15 = .ok (.iadd, 1) := by decide +kernel
theorem d_M_priceOf_16 : decode m_M_priceOf.2.1 16 = .ok (.bipush 10, 2) := by decide +kernel
theorem d_M_priceOf_18 : decode m_M_priceOf.2.1 18 = .ok (.idiv, 1) := by decide +kernel
theorem d_M_priceOf_19 : decode m_M_priceOf.2.1 19 = .ok (.imul, 1) := by decide +kernel
theorem d_M_priceOf_20 : decode m_M_priceOf.2.1 20 = .ok (.iadd, 1) := by decide +kernel
theorem d_M_priceOf_21 : decode m_M_priceOf.2.1 21 = .ok (.ireturn, 1) := by decide +kernel
theorem d_M_at_0 : decode m_M_at.2.1 0 = .ok (.aload_n 0, 1) := by decide +kernel
theorem d_M_at_1 : decode m_M_at.2.1 1 = .ok (.iconst 0, 1) := by decide +kernel
theorem d_M_at_2 : decode m_M_at.2.1 2 = .ok (.putfield 7, 3) := by decide +kernel
theorem d_M_at_5 : decode m_M_at.2.1 5 = .ok (.iload_n 1, 1) := by decide +kernel
theorem d_M_at_6 : decode m_M_at.2.1 6 = .ok (.ifCond .lt 11, 3) := by decide +kernel
theorem d_M_at_9 : decode m_M_at.2.1 9 = .ok (.iload_n 1, 1) := by decide +kernel
theorem d_M_at_10 : decode m_M_at.2.1 10 = .ok (.aload_n 0, 1) := by decide +kernel
theorem d_M_at_11 : decode m_M_at.2.1 11 = .ok (.getfield 98, 3) := by decide +kernel
theorem d_M_at_14 : decode m_M_at.2.1 14 = .ok (.if_icmp .lt 7, 3) := by decide +kernel
theorem d_M_at_17 : decode m_M_at.2.1 17 = .ok (.iconst (-1), 1) := by decide +kernel
theorem d_M_at_18 : decode m_M_at.2.1 18 = .ok (.goto 9, 3) := by decide +kernel
theorem d_M_at_21 : decode m_M_at.2.1 21 = .ok (.aload_n 0, 1) := by decide +kernel
theorem d_M_at_22 : decode m_M_at.2.1 22 = .ok (.getfield 101, 3) := by decide +kernel
theorem d_M_at_25 : decode m_M_at.2.1 25 = .ok (.iload_n 1, 1) := by decide +kernel
theorem d_M_at_26 : decode m_M_at.2.1 26 = .ok (.iaload, 1) := by decide +kernel
theorem d_M_at_27 : decode m_M_at.2.1 27 = .ok (.ireturn, 1) := by decide +kernel
theorem d_M_price_0 : decode m_M_price.2.1 0 = .ok (.aload_n 0, 1) := by decide +kernel
theorem d_M_price_1 : decode m_M_price.2.1 1 = .ok (.invokevirtual 167, 3) := by decide +kernel
theorem d_M_price_4 : decode m_M_price.2.1 4 = .ok (.istore_n 3, 1) := by decide +kernel
theorem d_M_price_5 : decode m_M_price.2.1 5 = .ok (.iload_n 3, 1) := by decide +kernel
theorem d_M_price_6 : decode m_M_price.2.1 6 = .ok (.ifCond .ge 7, 3) := by decide +kernel
theorem d_M_price_9 : decode m_M_price.2.1 9 = .ok (.iconst (-1), 1) := by decide +kernel
theorem d_M_price_10 : decode m_M_price.2.1 10 = .ok (.goto 9, 3) := by decide +kernel
theorem d_M_price_13 : decode m_M_price.2.1 13 = .ok (.aload_n 0, 1) := by decide +kernel
theorem d_M_price_14 : decode m_M_price.2.1 14 = .ok (.iload_n 3, 1) := by decide +kernel
theorem d_M_price_15 : decode m_M_price.2.1 15 = .ok (.iload_n 1, 1) := by decide +kernel
theorem d_M_price_16 : decode m_M_price.2.1 16 = .ok (.invokevirtual 170, 3) := by decide +kernel
theorem d_M_price_19 : decode m_M_price.2.1 19 = .ok (.istore 4, 2) := by decide +kernel
theorem d_M_price_21 : decode m_M_price.2.1 21 = .ok (.aload_n 0, 1) := by decide +kernel
theorem d_M_price_22 : decode m_M_price.2.1 22 = .ok (.iload_n 3, 1) := by decide +kernel
theorem d_M_price_23 : decode m_M_price.2.1 23 = .ok (.ifCond .ge 7, 3) := by decide +kernel
theorem d_M_price_26 : decode m_M_price.2.1 26 = .ok (.iconst 3, 1) := by decide +kernel
theorem d_M_price_27 : decode m_M_price.2.1 27 = .ok (.goto 28, 3) := by decide +kernel
theorem d_M_price_30 : decode m_M_price.2.1 30 = .ok (.iload 4, 2) := by decide +kernel
theorem d_M_price_32 : decode m_M_price.2.1 32 = .ok (.ifCond .ge 7, 3) := by decide +kernel
theorem d_M_price_35 : decode m_M_price.2.1 35 = .ok (.iconst 1, 1) := by decide +kernel
theorem d_M_price_36 : decode m_M_price.2.1 36 = .ok (.goto 19, 3) := by decide +kernel
theorem d_M_price_39 : decode m_M_price.2.1 39 = .ok (.iload_n 2, 1) := by decide +kernel
theorem d_M_price_40 : decode m_M_price.2.1 40 = .ok (.iconst 1, 1) := by decide +kernel
theorem d_M_price_41 : decode m_M_price.2.1 41 = .ok (.sipush 2000, 3) := by decide +kernel
theorem d_M_price_44 : decode m_M_price.2.1 44 = .ok (.invokestatic 156, 3) := by decide +kernel
theorem d_M_price_47 : decode m_M_price.2.1 47 = .ok (.ifCond .eq 7, 3) := by decide +kernel
theorem d_M_price_50 : decode m_M_price.2.1 50 = .ok (.iconst 2, 1) := by decide +kernel
theorem d_M_price_51 : decode m_M_price.2.1 51 = .ok (.goto 4, 3) := by decide +kernel
theorem d_M_price_54 : decode m_M_price.2.1 54 = .ok (.iconst 0, 1) := by decide +kernel
theorem d_M_price_55 : decode m_M_price.2.1 55 = .ok (.putfield 7, 3) := by decide +kernel
theorem d_M_price_58 : decode m_M_price.2.1 58 = .ok (.aload_n 0, 1) := by decide +kernel
theorem d_M_price_59 : decode m_M_price.2.1 59 = .ok (.getfield 7, 3) := by decide +kernel
theorem d_M_price_62 : decode m_M_price.2.1 62 = .ok (.ifCond .eq 7, 3) := by decide +kernel
theorem d_M_price_65 : decode m_M_price.2.1 65 = .ok (.iconst 0, 1) := by decide +kernel
theorem d_M_price_66 : decode m_M_price.2.1 66 = .ok (.goto 10, 3) := by decide +kernel
theorem d_M_price_69 : decode m_M_price.2.1 69 = .ok (.aload_n 0, 1) := by decide +kernel
theorem d_M_price_70 : decode m_M_price.2.1 70 = .ok (.iload 4, 2) := by decide +kernel
theorem d_M_price_72 : decode m_M_price.2.1 72 = .ok (.iload_n 2, 1) := by decide +kernel
theorem d_M_price_73 : decode m_M_price.2.1 73 = .ok (.invokevirtual 174, 3) := by decide +kernel
theorem d_M_price_76 : decode m_M_price.2.1 76 = .ok (.ireturn, 1) := by decide +kernel
theorem d_M_zone_0 : decode m_M_zone.2.1 0 = .ok (.aload_n 0, 1) := by decide +kernel
theorem d_M_zone_1 : decode m_M_zone.2.1 1 = .ok (.invokevirtual 167, 3) := by decide +kernel
theorem d_M_zone_4 : decode m_M_zone.2.1 4 = .ok (.istore_n 2, 1) := by decide +kernel
theorem d_M_zone_5 : decode m_M_zone.2.1 5 = .ok (.aload_n 0, 1) := by decide +kernel
theorem d_M_zone_6 : decode m_M_zone.2.1 6 = .ok (.iload_n 1, 1) := by decide +kernel
theorem d_M_zone_7 : decode m_M_zone.2.1 7 = .ok (.iconst 0, 1) := by decide +kernel
theorem d_M_zone_8 : decode m_M_zone.2.1 8 = .ok (.sipush 9999, 3) := by decide +kernel
theorem d_M_zone_11 : decode m_M_zone.2.1 11 = .ok (.invokestatic 156, 3) := by decide +kernel
theorem d_M_zone_14 : decode m_M_zone.2.1 14 = .ok (.ifCond .eq 7, 3) := by decide +kernel
theorem d_M_zone_17 : decode m_M_zone.2.1 17 = .ok (.iconst 1, 1) := by decide +kernel
theorem d_M_zone_18 : decode m_M_zone.2.1 18 = .ok (.goto 12, 3) := by decide +kernel
theorem d_M_zone_21 : decode m_M_zone.2.1 21 = .ok (.iload_n 2, 1) := by decide +kernel
theorem d_M_zone_22 : decode m_M_zone.2.1 22 = .ok (.ifCond .ge 7, 3) := by decide +kernel
theorem d_M_zone_25 : decode m_M_zone.2.1 25 = .ok (.iconst 2, 1) := by decide +kernel
theorem d_M_zone_26 : decode m_M_zone.2.1 26 = .ok (.goto 4, 3) := by decide +kernel
theorem d_M_zone_29 : decode m_M_zone.2.1 29 = .ok (.iconst 0, 1) := by decide +kernel
theorem d_M_zone_30 : decode m_M_zone.2.1 30 = .ok (.putfield 7, 3) := by decide +kernel
theorem d_M_zone_33 : decode m_M_zone.2.1 33 = .ok (.aload_n 0, 1) := by decide +kernel
theorem d_M_zone_34 : decode m_M_zone.2.1 34 = .ok (.getfield 7, 3) := by decide +kernel
theorem d_M_zone_37 : decode m_M_zone.2.1 37 = .ok (.ifCond .eq 7, 3) := by decide +kernel
theorem d_M_zone_40 : decode m_M_zone.2.1 40 = .ok (.iconst 0, 1) := by decide +kernel
theorem d_M_zone_41 : decode m_M_zone.2.1 41 = .ok (.goto 9, 3) := by decide +kernel
theorem d_M_zone_44 : decode m_M_zone.2.1 44 = .ok (.aload_n 0, 1) := by decide +kernel
theorem d_M_zone_45 : decode m_M_zone.2.1 45 = .ok (.iload_n 2, 1) := by decide +kernel
theorem d_M_zone_46 : decode m_M_zone.2.1 46 = .ok (.iload_n 1, 1) := by decide +kernel
theorem d_M_zone_47 : decode m_M_zone.2.1 47 = .ok (.invokevirtual 177, 3) := by decide +kernel
theorem d_M_zone_50 : decode m_M_zone.2.1 50 = .ok (.ireturn, 1) := by decide +kernel
theorem d_M_zoneBy_0 : decode m_M_zoneBy.2.1 0 = .ok (.bipush 8, 2) := by decide +kernel
theorem d_M_zoneBy_2 : decode m_M_zoneBy.2.1 2 = .ok (.iload_n 1, 1) := by decide +kernel
theorem d_M_zoneBy_3 : decode m_M_zoneBy.2.1 3 = .ok (.imul, 1) := by decide +kernel
theorem d_M_zoneBy_4 : decode m_M_zoneBy.2.1 4 = .ok (.istore_n 3, 1) := by decide +kernel
theorem d_M_zoneBy_5 : decode m_M_zoneBy.2.1 5 = .ok (.iload_n 3, 1) := by decide +kernel
theorem d_M_zoneBy_6 : decode m_M_zoneBy.2.1 6 = .ok (.bipush 8, 2) := by decide +kernel
theorem d_M_zoneBy_8 : decode m_M_zoneBy.2.1 8 = .ok (.iload_n 1, 1) := by decide +kernel
theorem d_M_zoneBy_9 : decode m_M_zoneBy.2.1 9 = .ok (.imul, 1) := by decide +kernel
theorem d_M_zoneBy_10 : decode m_M_zoneBy.2.1 10 = .ok (.aload_n 0, 1) := by decide +kernel
theorem d_M_zoneBy_11 : decode m_M_zoneBy.2.1 11 = .ok (.getfield 59, 3) := by decide +kernel
theorem d_M_zoneBy_14 : decode m_M_zoneBy.2.1 14 = .ok (.iload_n 1, 1) := by decide +kernel
theorem d_M_zoneBy_15 : decode m_M_zoneBy.2.1 15 = .ok (.iaload, 1) := by decide +kernel
theorem d_M_zoneBy_16 : decode m_M_zoneBy.2.1 16 = .ok (.iadd, 1) := by decide +kernel
theorem d_M_zoneBy_17 : decode m_M_zoneBy.2.1 17 = .ok (.if_icmp .ge 36, 3) := by decide +kernel
theorem d_M_zoneBy_20 : decode m_M_zoneBy.2.1 20 = .ok (.aload_n 0, 1) := by decide +kernel
theorem d_M_zoneBy_21 : decode m_M_zoneBy.2.1 21 = .ok (.getfield 62, 3) := by decide +kernel
theorem d_M_zoneBy_24 : decode m_M_zoneBy.2.1 24 = .ok (.iload_n 3, 1) := by decide +kernel
theorem d_M_zoneBy_25 : decode m_M_zoneBy.2.1 25 = .ok (.iaload, 1) := by decide +kernel
theorem d_M_zoneBy_26 : decode m_M_zoneBy.2.1 26 = .ok (.iload_n 2, 1) := by decide +kernel
theorem d_M_zoneBy_27 : decode m_M_zoneBy.2.1 27 = .ok (.if_icmp .gt 20, 3) := by decide +kernel
theorem d_M_zoneBy_30 : decode m_M_zoneBy.2.1 30 = .ok (.iload_n 2, 1) := by decide +kernel
theorem d_M_zoneBy_31 : decode m_M_zoneBy.2.1 31 = .ok (.aload_n 0, 1) := by decide +kernel
theorem d_M_zoneBy_32 : decode m_M_zoneBy.2.1 32 = .ok (.getfield 65, 3) := by decide +kernel
theorem d_M_zoneBy_35 : decode m_M_zoneBy.2.1 35 = .ok (.iload_n 3, 1) := by decide +kernel
theorem d_M_zoneBy_36 : decode m_M_zoneBy.2.1 36 = .ok (.iaload, 1) := by decide +kernel
theorem d_M_zoneBy_37 : decode m_M_zoneBy.2.1 37 = .ok (.if_icmp .gt 10, 3) := by decide +kernel
theorem d_M_zoneBy_40 : decode m_M_zoneBy.2.1 40 = .ok (.aload_n 0, 1) := by decide +kernel
theorem d_M_zoneBy_41 : decode m_M_zoneBy.2.1 41 = .ok (.getfield 68, 3) := by decide +kernel
theorem d_M_zoneBy_44 : decode m_M_zoneBy.2.1 44 = .ok (.iload_n 3, 1) := by decide +kernel
theorem d_M_zoneBy_45 : decode m_M_zoneBy.2.1 45 = .ok (.iaload, 1) := by decide +kernel
theorem d_M_zoneBy_46 : decode m_M_zoneBy.2.1 46 = .ok (.ireturn, 1) := by decide +kernel
theorem d_M_zoneBy_47 : decode m_M_zoneBy.2.1 47 = .ok (.iinc 3 1, 3) := by decide +kernel
theorem d_M_zoneBy_50 : decode m_M_zoneBy.2.1 50 = .ok (.goto (-45), 3) := by decide +kernel
theorem d_M_zoneBy_53 : decode m_M_zoneBy.2.1 53 = .ok (.iconst 0, 1) := by decide +kernel
theorem d_M_zoneBy_54 : decode m_M_zoneBy.2.1 54 = .ok (.ireturn, 1) := by decide +kernel
theorem d_M_hours_0 : decode m_M_hours.2.1 0 = .ok (.aload_n 0, 1) := by decide +kernel
theorem d_M_hours_1 : decode m_M_hours.2.1 1 = .ok (.invokevirtual 167, 3) := by decide +kernel
theorem d_M_hours_4 : decode m_M_hours.2.1 4 = .ok (.istore_n 3, 1) := by decide +kernel
theorem d_M_hours_5 : decode m_M_hours.2.1 5 = .ok (.iload_n 3, 1) := by decide +kernel
theorem d_M_hours_6 : decode m_M_hours.2.1 6 = .ok (.ifCond .ge 7, 3) := by decide +kernel
theorem d_M_hours_9 : decode m_M_hours.2.1 9 = .ok (.iconst (-1), 1) := by decide +kernel
theorem d_M_hours_10 : decode m_M_hours.2.1 10 = .ok (.goto 9, 3) := by decide +kernel
theorem d_M_hours_13 : decode m_M_hours.2.1 13 = .ok (.aload_n 0, 1) := by decide +kernel
theorem d_M_hours_14 : decode m_M_hours.2.1 14 = .ok (.iload_n 3, 1) := by decide +kernel
theorem d_M_hours_15 : decode m_M_hours.2.1 15 = .ok (.iload_n 1, 1) := by decide +kernel
theorem d_M_hours_16 : decode m_M_hours.2.1 16 = .ok (.invokevirtual 170, 3) := by decide +kernel
theorem d_M_hours_19 : decode m_M_hours.2.1 19 = .ok (.istore 4, 2) := by decide +kernel
theorem d_M_hours_21 : decode m_M_hours.2.1 21 = .ok (.aload_n 0, 1) := by decide +kernel
theorem d_M_hours_22 : decode m_M_hours.2.1 22 = .ok (.iload_n 3, 1) := by decide +kernel
theorem d_M_hours_23 : decode m_M_hours.2.1 23 = .ok (.ifCond .ge 7, 3) := by decide +kernel
theorem d_M_hours_26 : decode m_M_hours.2.1 26 = .ok (.iconst 3, 1) := by decide +kernel
theorem d_M_hours_27 : decode m_M_hours.2.1 27 = .ok (.goto 41, 3) := by decide +kernel
theorem d_M_hours_30 : decode m_M_hours.2.1 30 = .ok (.iload 4, 2) := by decide +kernel
theorem d_M_hours_32 : decode m_M_hours.2.1 32 = .ok (.ifCond .ge 7, 3) := by decide +kernel
theorem d_M_hours_35 : decode m_M_hours.2.1 35 = .ok (.iconst 1, 1) := by decide +kernel
theorem d_M_hours_36 : decode m_M_hours.2.1 36 = .ok (.goto 32, 3) := by decide +kernel
theorem d_M_hours_39 : decode m_M_hours.2.1 39 = .ok (.iload_n 2, 1) := by decide +kernel
theorem d_M_hours_40 : decode m_M_hours.2.1 40 = .ok (.iconst 0, 1) := by decide +kernel
theorem d_M_hours_41 : decode m_M_hours.2.1 41 = .ok (.bipush 23, 2) := by decide +kernel
theorem d_M_hours_43 : decode m_M_hours.2.1 43 = .ok (.invokestatic 156, 3) := by decide +kernel
theorem d_M_hours_46 : decode m_M_hours.2.1 46 = .ok (.ifCond .eq 7, 3) := by decide +kernel
theorem d_M_hours_49 : decode m_M_hours.2.1 49 = .ok (.iconst 2, 1) := by decide +kernel
theorem d_M_hours_50 : decode m_M_hours.2.1 50 = .ok (.goto 18, 3) := by decide +kernel
theorem d_M_hours_53 : decode m_M_hours.2.1 53 = .ok (.aload_n 0, 1) := by decide +kernel
theorem d_M_hours_54 : decode m_M_hours.2.1 54 = .ok (.getfield 53, 3) := by decide +kernel
theorem d_M_hours_57 : decode m_M_hours.2.1 57 = .ok (.iload 4, 2) := by decide +kernel
theorem d_M_hours_59 : decode m_M_hours.2.1 59 = .ok (.iaload, 1) := by decide +kernel
theorem d_M_hours_60 : decode m_M_hours.2.1 60 = .ok (.ifCond .ge 7, 3) := by decide +kernel
theorem d_M_hours_63 : decode m_M_hours.2.1 63 = .ok (.iconst 3, 1) := by decide +kernel
theorem d_M_hours_64 : decode m_M_hours.2.1 64 = .ok (.goto 4, 3) := by decide +kernel
theorem d_M_hours_67 : decode m_M_hours.2.1 67 = .ok (.iconst 0, 1) := by decide +kernel
theorem d_M_hours_68 : decode m_M_hours.2.1 68 = .ok (.putfield 7, 3) := by decide +kernel
theorem d_M_hours_71 : decode m_M_hours.2.1 71 = .ok (.aload_n 0, 1) := by decide +kernel
theorem d_M_hours_72 : decode m_M_hours.2.1 72 = .ok (.getfield 7, 3) := by decide +kernel
theorem d_M_hours_75 : decode m_M_hours.2.1 75 = .ok (.ifCond .ne 29, 3) := by decide +kernel
theorem d_M_hours_78 : decode m_M_hours.2.1 78 = .ok (.aload_n 0, 1) := by decide +kernel
theorem d_M_hours_79 : decode m_M_hours.2.1 79 = .ok (.getfield 53, 3) := by decide +kernel
theorem d_M_hours_82 : decode m_M_hours.2.1 82 = .ok (.iload 4, 2) := by decide +kernel
theorem d_M_hours_84 : decode m_M_hours.2.1 84 = .ok (.iaload, 1) := by decide +kernel
theorem d_M_hours_85 : decode m_M_hours.2.1 85 = .ok (.iload_n 2, 1) := by decide +kernel
theorem d_M_hours_86 : decode m_M_hours.2.1 86 = .ok (.if_icmp .gt 18, 3) := by decide +kernel
theorem d_M_hours_89 : decode m_M_hours.2.1 89 = .ok (.iload_n 2, 1) := by decide +kernel
theorem d_M_hours_90 : decode m_M_hours.2.1 90 = .ok (.aload_n 0, 1) := by decide +kernel
theorem d_M_hours_91 : decode m_M_hours.2.1 91 = .ok (.getfield 56, 3) := by decide +kernel
theorem d_M_hours_94 : decode m_M_hours.2.1 94 = .ok (.iload 4, 2) := by decide +kernel
theorem d_M_hours_96 : decode m_M_hours.2.1 96 = .ok (.iaload, 1) := by decide +kernel
theorem d_M_hours_97 : decode m_M_hours.2.1 97 = .ok (.if_icmp .ge 7, 3) := by decide +kernel
theorem d_M_hours_100 : decode m_M_hours.2.1 100 = .ok (.iconst 1, 1) := by decide +kernel
theorem d_M_hours_101 : decode m_M_hours.2.1 101 = .ok (.goto 4, 3) := by decide +kernel
theorem d_M_hours_104 : decode m_M_hours.2.1 104 = .ok (.iconst 0, 1) := by decide +kernel
theorem d_M_hours_105 : decode m_M_hours.2.1 105 = .ok (.ireturn, 1) := by decide +kernel
theorem d_M_label_0 : decode m_M_label.2.1 0 = .ok (.aload_n 0, 1) := by decide +kernel
theorem d_M_label_1 : decode m_M_label.2.1 1 = .ok (.invokevirtual 167, 3) := by decide +kernel
theorem d_M_label_4 : decode m_M_label.2.1 4 = .ok (.istore_n 3, 1) := by decide +kernel
theorem d_M_label_5 : decode m_M_label.2.1 5 = .ok (.iload_n 3, 1) := by decide +kernel
theorem d_M_label_6 : decode m_M_label.2.1 6 = .ok (.ifCond .ge 7, 3) := by decide +kernel
theorem d_M_label_9 : decode m_M_label.2.1 9 = .ok (.iconst (-1), 1) := by decide +kernel
theorem d_M_label_10 : decode m_M_label.2.1 10 = .ok (.goto 9, 3) := by decide +kernel
theorem d_M_label_13 : decode m_M_label.2.1 13 = .ok (.aload_n 0, 1) := by decide +kernel
theorem d_M_label_14 : decode m_M_label.2.1 14 = .ok (.iload_n 3, 1) := by decide +kernel
theorem d_M_label_15 : decode m_M_label.2.1 15 = .ok (.iload_n 1, 1) := by decide +kernel
theorem d_M_label_16 : decode m_M_label.2.1 16 = .ok (.invokevirtual 170, 3) := by decide +kernel
theorem d_M_label_19 : decode m_M_label.2.1 19 = .ok (.istore 4, 2) := by decide +kernel
theorem d_M_label_21 : decode m_M_label.2.1 21 = .ok (.aload_n 0, 1) := by decide +kernel
theorem d_M_label_22 : decode m_M_label.2.1 22 = .ok (.iload_n 3, 1) := by decide +kernel
theorem d_M_label_23 : decode m_M_label.2.1 23 = .ok (.ifCond .ge 7, 3) := by decide +kernel
theorem d_M_label_26 : decode m_M_label.2.1 26 = .ok (.iconst 3, 1) := by decide +kernel
theorem d_M_label_27 : decode m_M_label.2.1 27 = .ok (.goto 28, 3) := by decide +kernel
theorem d_M_label_30 : decode m_M_label.2.1 30 = .ok (.iload 4, 2) := by decide +kernel
theorem d_M_label_32 : decode m_M_label.2.1 32 = .ok (.ifCond .ge 7, 3) := by decide +kernel
theorem d_M_label_35 : decode m_M_label.2.1 35 = .ok (.iconst 1, 1) := by decide +kernel
theorem d_M_label_36 : decode m_M_label.2.1 36 = .ok (.goto 19, 3) := by decide +kernel
theorem d_M_label_39 : decode m_M_label.2.1 39 = .ok (.iload_n 2, 1) := by decide +kernel
theorem d_M_label_40 : decode m_M_label.2.1 40 = .ok (.iconst 0, 1) := by decide +kernel
theorem d_M_label_41 : decode m_M_label.2.1 41 = .ok (.sipush 9999, 3) := by decide +kernel
theorem d_M_label_44 : decode m_M_label.2.1 44 = .ok (.invokestatic 156, 3) := by decide +kernel
theorem d_M_label_47 : decode m_M_label.2.1 47 = .ok (.ifCond .eq 7, 3) := by decide +kernel
theorem d_M_label_50 : decode m_M_label.2.1 50 = .ok (.iconst 2, 1) := by decide +kernel
theorem d_M_label_51 : decode m_M_label.2.1 51 = .ok (.goto 4, 3) := by decide +kernel
theorem d_M_label_54 : decode m_M_label.2.1 54 = .ok (.iconst 0, 1) := by decide +kernel
theorem d_M_label_55 : decode m_M_label.2.1 55 = .ok (.putfield 7, 3) := by decide +kernel
theorem d_M_label_58 : decode m_M_label.2.1 58 = .ok (.aload_n 0, 1) := by decide +kernel
theorem d_M_label_59 : decode m_M_label.2.1 59 = .ok (.getfield 7, 3) := by decide +kernel
theorem d_M_label_62 : decode m_M_label.2.1 62 = .ok (.ifCond .eq 5, 3) := by decide +kernel
theorem d_M_label_65 : decode m_M_label.2.1 65 = .ok (.iconst 0, 1) := by decide +kernel
theorem d_M_label_66 : decode m_M_label.2.1 66 = .ok (.ireturn, 1) := by decide +kernel
theorem d_M_label_67 : decode m_M_label.2.1 67 = .ok (.aload_n 0, 1) := by decide +kernel
theorem d_M_label_68 : decode m_M_label.2.1 68 = .ok (.iload_n 3, 1) := by decide +kernel
theorem d_M_label_69 : decode m_M_label.2.1 69 = .ok (.iload_n 2, 1) := by decide +kernel
theorem d_M_label_70 : decode m_M_label.2.1 70 = .ok (.invokevirtual 177, 3) := by decide +kernel
theorem d_M_label_73 : decode m_M_label.2.1 73 = .ok (.istore 5, 2) := by decide +kernel
theorem d_M_label_75 : decode m_M_label.2.1 75 = .ok (.iload 5, 2) := by decide +kernel
theorem d_M_label_77 : decode m_M_label.2.1 77 = .ok (.ifCond .eq 18, 3) := by decide +kernel
theorem d_M_label_80 : decode m_M_label.2.1 80 = .ok (.aload_n 0, 1) := by decide +kernel
theorem d_M_label_81 : decode m_M_label.2.1 81 = .ok (.getfield 35, 3) := by decide +kernel
theorem d_M_label_84 : decode m_M_label.2.1 84 = .ok (.iload 4, 2) := by decide +kernel
theorem d_M_label_86 : decode m_M_label.2.1 86 = .ok (.iaload, 1) := by decide +kernel
theorem d_M_label_87 : decode m_M_label.2.1 87 = .ok (.iload 5, 2) := by decide +kernel
theorem d_M_label_89 : decode m_M_label.2.1 89 = .ok (.ishr, 1) := by decide +kernel
theorem d_M_label_90 : decode m_M_label.2.1 90 = .ok (.iconst 1, 1) := by decide +kernel
theorem d_M_label_91 : decode m_M_label.2.1 91 = .ok (.iand, 1) := by decide +kernel
theorem d_M_label_92 : decode m_M_label.2.1 92 = .ok (.ifCond .ne 5, 3) := by decide +kernel
theorem d_M_label_95 : decode m_M_label.2.1 95 = .ok (.iconst 0, 1) := by decide +kernel
theorem d_M_label_96 : decode m_M_label.2.1 96 = .ok (.ireturn, 1) := by decide +kernel
theorem d_M_label_97 : decode m_M_label.2.1 97 = .ok (.aload_n 0, 1) := by decide +kernel
theorem d_M_label_98 : decode m_M_label.2.1 98 = .ok (.iconst 0, 1) := by decide +kernel
theorem d_M_label_99 : decode m_M_label.2.1 99 = .ok (.putfield 104, 3) := by decide +kernel
theorem d_M_label_102 : decode m_M_label.2.1 102 = .ok (.aload_n 0, 1) := by decide +kernel
theorem d_M_label_103 : decode m_M_label.2.1 103 = .ok (.iload_n 1, 1) := by decide +kernel
theorem d_M_label_104 : decode m_M_label.2.1 104 = .ok (.invokevirtual 153, 3) := by decide +kernel
theorem d_M_label_107 : decode m_M_label.2.1 107 = .ok (.aload_n 0, 1) := by decide +kernel
theorem d_M_label_108 : decode m_M_label.2.1 108 = .ok (.bipush 48, 2) := by decide +kernel
theorem d_M_label_110 : decode m_M_label.2.1 110 = .ok (.iload 5, 2) := by decide +kernel
theorem d_M_label_112 : decode m_M_label.2.1 112 = .ok (.iadd, 1) := by decide +kernel
theorem d_M_label_113 : decode m_M_label.2.1 113 = .ok (.invokevirtual 153, 3) := by decide +kernel
theorem d_M_label_116 : decode m_M_label.2.1 116 = .ok (.aload_n 0, 1) := by decide +kernel
theorem d_M_label_117 : decode m_M_label.2.1 117 = .ok (.bipush 45, 2) := by decide +kernel
theorem d_M_label_119 : decode m_M_label.2.1 119 = .ok (.invokevirtual 153, 3) := by decide +kernel
theorem d_M_label_122 : decode m_M_label.2.1 122 = .ok (.sipush 1000, 3) := by decide +kernel
theorem d_M_label_125 : decode m_M_label.2.1 125 = .ok (.istore 6, 2) := by decide +kernel
theorem d_M_label_127 : decode m_M_label.2.1 127 = .ok (.iload 6, 2) := by decide +kernel
theorem d_M_label_129 : decode m_M_label.2.1 129 = .ok (.ifCond .le 27, 3) := by decide +kernel
theorem d_M_label_132 : decode m_M_label.2.1 132 = .ok (.aload_n 0, 1) := by decide +kernel
theorem d_M_label_133 : decode m_M_label.2.1 133 = .ok (.bipush 48, 2) := by decide +kernel
theorem d_M_label_135 : decode m_M_label.2.1 135 = .ok (.iload_n 2, 1) := by decide +kernel
theorem d_M_label_136 : decode m_M_label.2.1 136 = .ok (.iload 6, 2) := by decide +kernel
theorem d_M_label_138 : decode m_M_label.2.1 138 = .ok (.idiv, 1) := by decide +kernel
theorem d_M_label_139 : decode m_M_label.2.1 139 = .ok (.bipush 10, 2) := by decide +kernel
theorem d_M_label_141 : decode m_M_label.2.1 141 = .ok (.irem, 1) := by decide +kernel
theorem d_M_label_142 : decode m_M_label.2.1 142 = .ok (.iadd, 1) := by decide +kernel
theorem d_M_label_143 : decode m_M_label.2.1 143 = .ok (.invokevirtual 153, 3) := by decide +kernel
theorem d_M_label_146 : decode m_M_label.2.1 146 = .ok (.iload 6, 2) := by decide +kernel
theorem d_M_label_148 : decode m_M_label.2.1 148 = .ok (.bipush 10, 2) := by decide +kernel
theorem d_M_label_150 : decode m_M_label.2.1 150 = .ok (.idiv, 1) := by decide +kernel
theorem d_M_label_151 : decode m_M_label.2.1 151 = .ok (.istore 6, 2) := by decide +kernel
theorem d_M_label_153 : decode m_M_label.2.1 153 = .ok (.goto (-26), 3) := by decide +kernel
theorem d_M_label_156 : decode m_M_label.2.1 156 = .ok (.aload_n 0, 1) := by decide +kernel
theorem d_M_label_157 : decode m_M_label.2.1 157 = .ok (.aload_n 0, 1) := by decide +kernel
theorem d_M_label_158 : decode m_M_label.2.1 158 = .ok (.getfield 107, 3) := by decide +kernel
theorem d_M_label_161 : decode m_M_label.2.1 161 = .ok (.invokestatic 180, 3) := by decide +kernel
theorem d_M_label_164 : decode m_M_label.2.1 164 = .ok (.invokevirtual 153, 3) := by decide +kernel
theorem d_M_label_167 : decode m_M_label.2.1 167 = .ok (.bipush 8, 2) := by decide +kernel
theorem d_M_label_169 : decode m_M_label.2.1 169 = .ok (.ireturn, 1) := by decide +kernel
theorem d_M_put_0 : decode m_M_put.2.1 0 = .ok (.aload_n 0, 1) := by decide +kernel
theorem d_M_put_1 : decode m_M_put.2.1 1 = .ok (.getfield 107, 3) := by decide +kernel
theorem d_M_put_4 : decode m_M_put.2.1 4 = .ok (.aload_n 0, 1) := by decide +kernel
theorem d_M_put_5 : decode m_M_put.2.1 5 = .ok (.getfield 104, 3) := by decide +kernel
theorem d_M_put_8 : decode m_M_put.2.1 8 = .ok (.iload_n 1, 1) := by decide +kernel
theorem d_M_put_9 : decode m_M_put.2.1 9 = .ok (.iastore, 1) := by decide +kernel
theorem d_M_put_10 : decode m_M_put.2.1 10 = .ok (.aload_n 0, 1) := by decide +kernel
theorem d_M_put_11 : decode m_M_put.2.1 11 = .ok (.dup, 1) := by decide +kernel
theorem d_M_put_12 : decode m_M_put.2.1 12 = .ok (.getfield 104, 3) := by decide +kernel
theorem d_M_put_15 : decode m_M_put.2.1 15 = .ok (.iconst 1, 1) := by decide +kernel
theorem d_M_put_16 : decode m_M_put.2.1 16 = .ok (.iadd, 1) := by decide +kernel
theorem d_M_put_17 : decode m_M_put.2.1 17 = .ok (.putfield 104, 3) := by decide +kernel
theorem d_M_put_20 : decode m_M_put.2.1 20 = .ok (.return_, 1) := by decide +kernel
theorem d_M_check_0 : decode m_M_check.2.1 0 = .ok (.iconst 0, 1) := by decide +kernel
theorem d_M_check_1 : decode m_M_check.2.1 1 = .ok (.istore_n 1, 1) := by decide +kernel
theorem d_M_check_2 : decode m_M_check.2.1 2 = .ok (.iconst 0, 1) := by decide +kernel
theorem d_M_check_3 : decode m_M_check.2.1 3 = .ok (.istore_n 2, 1) := by decide +kernel
theorem d_M_check_4 : decode m_M_check.2.1 4 = .ok (.iload_n 2, 1) := by decide +kernel
theorem d_M_check_5 : decode m_M_check.2.1 5 = .ok (.bipush 7, 2) := by decide +kernel
theorem d_M_check_7 : decode m_M_check.2.1 7 = .ok (.if_icmp .ge 19, 3) := by decide +kernel
theorem d_M_check_10 : decode m_M_check.2.1 10 = .ok (.iload_n 1, 1) := by decide +kernel
theorem d_M_check_11 : decode m_M_check.2.1 11 = .ok (.iload_n 2, 1) := by decide +kernel
theorem d_M_check_12 : decode m_M_check.2.1 12 = .ok (.iconst 1, 1) := by decide +kernel
theorem d_M_check_13 : decode m_M_check.2.1 13 = .ok (.iadd, 1) := by decide +kernel
theorem d_M_check_14 : decode m_M_check.2.1 14 = .ok (.aload_n 0, 1) := by decide +kernel
theorem d_M_check_15 : decode m_M_check.2.1 15 = .ok (.iload_n 2, 1) := by decide +kernel
theorem d_M_check_16 : decode m_M_check.2.1 16 = .ok (.iaload, 1) := by decide +kernel
theorem d_M_check_17 : decode m_M_check.2.1 17 = .ok (.imul, 1) := by decide +kernel
theorem d_M_check_18 : decode m_M_check.2.1 18 = .ok (.iadd, 1) := by decide +kernel
theorem d_M_check_19 : decode m_M_check.2.1 19 = .ok (.istore_n 1, 1) := by decide +kernel
theorem d_M_check_20 : decode m_M_check.2.1 20 = .ok (.iinc 2 1, 3) := by decide +kernel
theorem d_M_check_23 : decode m_M_check.2.1 23 = .ok (.goto (-19), 3) := by decide +kernel
theorem d_M_check_26 : decode m_M_check.2.1 26 = .ok (.bipush 65, 2) := by decide +kernel
theorem d_M_check_28 : decode m_M_check.2.1 28 = .ok (.iload_n 1, 1) := by decide +kernel
theorem d_M_check_29 : decode m_M_check.2.1 29 = .ok (.bipush 26, 2) := by decide +kernel
theorem d_M_check_31 : decode m_M_check.2.1 31 = .ok (.irem, 1) := by decide +kernel
theorem d_M_check_32 : decode m_M_check.2.1 32 = .ok (.iadd, 1) := by decide +kernel
theorem d_M_check_33 : decode m_M_check.2.1 33 = .ok (.ireturn, 1) := by decide +kernel
theorem d_M_print_0 : decode m_M_print.2.1 0 = .ok (.iload_n 1, 1) := by decide +kernel
theorem d_M_print_1 : decode m_M_print.2.1 1 = .ok (.iconst 1, 1) := by decide +kernel
theorem d_M_print_2 : decode m_M_print.2.1 2 = .ok (.aload_n 0, 1) := by decide +kernel
theorem d_M_print_3 : decode m_M_print.2.1 3 = .ok (.getfield 20, 3) := by decide +kernel
theorem d_M_print_6 : decode m_M_print.2.1 6 = .ok (.invokestatic 156, 3) := by decide +kernel
theorem d_M_print_9 : decode m_M_print.2.1 9 = .ok (.ifCond .eq 7, 3) := by decide +kernel
theorem d_M_print_12 : decode m_M_print.2.1 12 = .ok (.iconst (-1), 1) := by decide +kernel
theorem d_M_print_13 : decode m_M_print.2.1 13 = .ok (.goto 11, 3) := by decide +kernel
theorem d_M_print_16 : decode m_M_print.2.1 16 = .ok (.aload_n 0, 1) := by decide +kernel
theorem d_M_print_17 : decode m_M_print.2.1 17 = .ok (.iload_n 1, 1) := by decide +kernel
theorem d_M_print_18 : decode m_M_print.2.1 18 = .ok (.iconst 1, 1) := by decide +kernel
theorem d_M_print_19 : decode m_M_print.2.1 19 = .ok (.isub, 1) := by decide +kernel
theorem d_M_print_20 : decode m_M_print.2.1 20 = .ok (.iload_n 2, 1) := by decide +kernel
theorem d_M_print_21 : decode m_M_print.2.1 21 = .ok (.invokevirtual 170, 3) := by decide +kernel
theorem d_M_print_24 : decode m_M_print.2.1 24 = .ok (.istore_n 3, 1) := by decide +kernel
theorem d_M_print_25 : decode m_M_print.2.1 25 = .ok (.aload_n 0, 1) := by decide +kernel
theorem d_M_print_26 : decode m_M_print.2.1 26 = .ok (.iload_n 3, 1) := by decide +kernel
theorem d_M_print_27 : decode m_M_print.2.1 27 = .ok (.ifCond .ge 7, 3) := by decide +kernel
theorem d_M_print_30 : decode m_M_print.2.1 30 = .ok (.iconst 1, 1) := by decide +kernel
theorem d_M_print_31 : decode m_M_print.2.1 31 = .ok (.goto 4, 3) := by decide +kernel
theorem d_M_print_34 : decode m_M_print.2.1 34 = .ok (.iconst 0, 1) := by decide +kernel
theorem d_M_print_35 : decode m_M_print.2.1 35 = .ok (.putfield 7, 3) := by decide +kernel
theorem d_M_print_38 : decode m_M_print.2.1 38 = .ok (.aload_n 0, 1) := by decide +kernel
theorem d_M_print_39 : decode m_M_print.2.1 39 = .ok (.getfield 7, 3) := by decide +kernel
theorem d_M_print_42 : decode m_M_print.2.1 42 = .ok (.ifCond .eq 5, 3) := by decide +kernel
theorem d_M_print_45 : decode m_M_print.2.1 45 = .ok (.iconst 0, 1) := by decide +kernel
theorem d_M_print_46 : decode m_M_print.2.1 46 = .ok (.ireturn, 1) := by decide +kernel
theorem d_M_print_47 : decode m_M_print.2.1 47 = .ok (.aload_n 0, 1) := by decide +kernel
theorem d_M_print_48 : decode m_M_print.2.1 48 = .ok (.iconst 0, 1) := by decide +kernel
theorem d_M_print_49 : decode m_M_print.2.1 49 = .ok (.putfield 104, 3) := by decide +kernel
theorem d_M_print_52 : decode m_M_print.2.1 52 = .ok (.aload_n 0, 1) := by decide +kernel
theorem d_M_print_53 : decode m_M_print.2.1 53 = .ok (.iload_n 2, 1) := by decide +kernel
theorem d_M_print_54 : decode m_M_print.2.1 54 = .ok (.invokevirtual 153, 3) := by decide +kernel
theorem d_M_print_57 : decode m_M_print.2.1 57 = .ok (.aload_n 0, 1) := by decide +kernel
theorem d_M_print_58 : decode m_M_print.2.1 58 = .ok (.bipush 58, 2) := by decide +kernel
theorem d_M_print_60 : decode m_M_print.2.1 60 = .ok (.invokevirtual 153, 3) := by decide +kernel
theorem d_M_print_63 : decode m_M_print.2.1 63 = .ok (.aload_n 0, 1) := by decide +kernel
theorem d_M_print_64 : decode m_M_print.2.1 64 = .ok (.aload_n 0, 1) := by decide +kernel
theorem d_M_print_65 : decode m_M_print.2.1 65 = .ok (.getfield 35, 3) := by decide +kernel
theorem d_M_print_68 : decode m_M_print.2.1 68 = .ok (.iload_n 3, 1) := by decide +kernel
theorem d_M_print_69 : decode m_M_print.2.1 69 = .ok (.iaload, 1) := by decide +kernel
theorem d_M_print_70 : decode m_M_print.2.1 70 = .ok (.invokevirtual 184, 3) := by decide +kernel
theorem d_M_print_73 : decode m_M_print.2.1 73 = .ok (.aload_n 0, 1) := by decide +kernel
theorem d_M_print_74 : decode m_M_print.2.1 74 = .ok (.bipush 58, 2) := by decide +kernel
theorem d_M_print_76 : decode m_M_print.2.1 76 = .ok (.invokevirtual 153, 3) := by decide +kernel
theorem d_M_print_79 : decode m_M_print.2.1 79 = .ok (.aload_n 0, 1) := by decide +kernel
theorem d_M_print_80 : decode m_M_print.2.1 80 = .ok (.aload_n 0, 1) := by decide +kernel
theorem d_M_print_81 : decode m_M_print.2.1 81 = .ok (.getfield 41, 3) := by decide +kernel
theorem d_M_print_84 : decode m_M_print.2.1 84 = .ok (.iload_n 3, 1) := by decide +kernel
theorem d_M_print_85 : decode m_M_print.2.1 85 = .ok (.iaload, 1) := by decide +kernel
theorem d_M_print_86 : decode m_M_print.2.1 86 = .ok (.invokevirtual 187, 3) := by decide +kernel
theorem d_M_print_89 : decode m_M_print.2.1 89 = .ok (.aload_n 0, 1) := by decide +kernel
theorem d_M_print_90 : decode m_M_print.2.1 90 = .ok (.bipush 58, 2) := by decide +kernel
theorem d_M_print_92 : decode m_M_print.2.1 92 = .ok (.invokevirtual 153, 3) := by decide +kernel
theorem d_M_print_95 : decode m_M_print.2.1 95 = .ok (.aload_n 0, 1) := by decide +kernel
theorem d_M_print_96 : decode m_M_print.2.1 96 = .ok (.aload_n 0, 1) := by decide +kernel
theorem d_M_print_97 : decode m_M_print.2.1 97 = .ok (.getfield 44, 3) := by decide +kernel
theorem d_M_print_100 : decode m_M_print.2.1 100 = .ok (.iload_n 3, 1) := by decide +kernel
theorem d_M_print_101 : decode m_M_print.2.1 101 = .ok (.iaload, 1) := by decide +kernel
theorem d_M_print_102 : decode m_M_print.2.1 102 = .ok (.invokevirtual 187, 3) := by decide +kernel
theorem d_M_print_105 : decode m_M_print.2.1 105 = .ok (.aload_n 0, 1) := by decide +kernel
theorem d_M_print_106 : decode m_M_print.2.1 106 = .ok (.bipush 58, 2) := by decide +kernel
theorem d_M_print_108 : decode m_M_print.2.1 108 = .ok (.invokevirtual 153, 3) := by decide +kernel
theorem d_M_print_111 : decode m_M_print.2.1 111 = .ok (.aload_n 0, 1) := by decide +kernel
theorem d_M_print_112 : decode m_M_print.2.1 112 = .ok (.aload_n 0, 1) := by decide +kernel
theorem d_M_print_113 : decode m_M_print.2.1 113 = .ok (.getfield 38, 3) := by decide +kernel
theorem d_M_print_116 : decode m_M_print.2.1 116 = .ok (.iload_n 3, 1) := by decide +kernel
theorem d_M_print_117 : decode m_M_print.2.1 117 = .ok (.iaload, 1) := by decide +kernel
theorem d_M_print_118 : decode m_M_print.2.1 118 = .ok (.invokevirtual 184, 3) := by decide +kernel
theorem d_M_print_121 : decode m_M_print.2.1 121 = .ok (.aload_n 0, 1) := by decide +kernel
theorem d_M_print_122 : decode m_M_print.2.1 122 = .ok (.bipush 58, 2) := by decide +kernel
theorem d_M_print_124 : decode m_M_print.2.1 124 = .ok (.invokevirtual 153, 3) := by decide +kernel
theorem d_M_print_127 : decode m_M_print.2.1 127 = .ok (.aload_n 0, 1) := by decide +kernel
theorem d_M_print_128 : decode m_M_print.2.1 128 = .ok (.aload_n 0, 1) := by decide +kernel
theorem d_M_print_129 : decode m_M_print.2.1 129 = .ok (.getfield 47, 3) := by decide +kernel
theorem d_M_print_132 : decode m_M_print.2.1 132 = .ok (.iload_n 3, 1) := by decide +kernel
theorem d_M_print_133 : decode m_M_print.2.1 133 = .ok (.iaload, 1) := by decide +kernel
theorem d_M_print_134 : decode m_M_print.2.1 134 = .ok (.invokevirtual 187, 3) := by decide +kernel
theorem d_M_print_137 : decode m_M_print.2.1 137 = .ok (.aload_n 0, 1) := by decide +kernel
theorem d_M_print_138 : decode m_M_print.2.1 138 = .ok (.bipush 43, 2) := by decide +kernel
theorem d_M_print_140 : decode m_M_print.2.1 140 = .ok (.invokevirtual 153, 3) := by decide +kernel
theorem d_M_print_143 : decode m_M_print.2.1 143 = .ok (.aload_n 0, 1) := by decide +kernel
theorem d_M_print_144 : decode m_M_print.2.1 144 = .ok (.aload_n 0, 1) := by decide +kernel
theorem d_M_print_145 : decode m_M_print.2.1 145 = .ok (.getfield 50, 3) := by decide +kernel
theorem d_M_print_148 : decode m_M_print.2.1 148 = .ok (.iload_n 3, 1) := by decide +kernel
theorem d_M_print_149 : decode m_M_print.2.1 149 = .ok (.iaload, 1) := by decide +kernel
theorem d_M_print_150 : decode m_M_print.2.1 150 = .ok (.invokevirtual 187, 3) := by decide +kernel
theorem d_M_print_153 : decode m_M_print.2.1 153 = .ok (.aload_n 0, 1) := by decide +kernel
theorem d_M_print_154 : decode m_M_print.2.1 154 = .ok (.getfield 104, 3) := by decide +kernel
theorem d_M_print_157 : decode m_M_print.2.1 157 = .ok (.ireturn, 1) := by decide +kernel
theorem d_M_putBits_0 : decode m_M_putBits.2.1 0 = .ok (.iconst 1, 1) := by decide +kernel
theorem d_M_putBits_1 : decode m_M_putBits.2.1 1 = .ok (.istore_n 2, 1) := by decide +kernel
theorem d_M_putBits_2 : decode m_M_putBits.2.1 2 = .ok (.iload_n 2, 1) := by decide +kernel
theorem d_M_putBits_3 : decode m_M_putBits.2.1 3 = .ok (.bipush 10, 2) := by decide +kernel
theorem d_M_putBits_5 : decode m_M_putBits.2.1 5 = .ok (.if_icmp .ge 26, 3) := by decide +kernel
theorem d_M_putBits_8 : decode m_M_putBits.2.1 8 = .ok (.iload_n 1, 1) := by decide +kernel
theorem d_M_putBits_9 : decode m_M_putBits.2.1 9 = .ok (.iload_n 2, 1) := by decide +kernel
theorem d_M_putBits_10 : decode m_M_putBits.2.1 10 = .ok (.ishr, 1) := by decide +kernel
theorem d_M_putBits_11 : decode m_M_putBits.2.1 11 = .ok (.iconst 1, 1) := by decide +kernel
theorem d_M_putBits_12 : decode m_M_putBits.2.1 12 = .ok (.iand, 1) := by decide +kernel
theorem d_M_putBits_13 : decode m_M_putBits.2.1 13 = .ok (.iconst 1, 1) := by decide +kernel
theorem d_M_putBits_14 : decode m_M_putBits.2.1 14 = .ok (.if_icmp .ne 11, 3) := by decide +kernel
theorem d_M_putBits_17 : decode m_M_putBits.2.1 17 = .ok (.aload_n 0, 1) := by decide +kernel
theorem d_M_putBits_18 : decode m_M_putBits.2.1 18 = .ok (.bipush 48, 2) := by decide +kernel
theorem d_M_putBits_20 : decode m_M_putBits.2.1 20 = .ok (.iload_n 2, 1) := by decide +kernel
theorem d_M_putBits_21 : decode m_M_putBits.2.1 21 = .ok (.iadd, 1) := by decide +kernel
theorem d_M_putBits_22 : decode m_M_putBits.2.1 22 = .ok (.invokevirtual 153, 3) := by decide +kernel
theorem d_M_putBits_25 : decode m_M_putBits.2.1 25 = .ok (.iinc 2 1, 3) := by decide +kernel
theorem d_M_putBits_28 : decode m_M_putBits.2.1 28 = .ok (.goto (-26), 3) := by decide +kernel
theorem d_M_putBits_31 : decode m_M_putBits.2.1 31 = .ok (.return_, 1) := by decide +kernel
theorem d_M_putNumber_0 : decode m_M_putNumber.2.1 0 = .ok (.iconst 1, 1) := by decide +kernel
theorem d_M_putNumber_1 : decode m_M_putNumber.2.1 1 = .ok (.istore_n 2, 1) := by decide +kernel
theorem d_M_putNumber_2 : decode m_M_putNumber.2.1 2 = .ok (.iload_n 2, 1) := by decide +kernel
theorem d_M_putNumber_3 : decode m_M_putNumber.2.1 3 = .ok (.iload_n 1, 1) := by decide +kernel
theorem d_M_putNumber_4 : decode m_M_putNumber.2.1 4 = .ok (.bipush 10, 2) := by decide +kernel
theorem d_M_putNumber_6 : decode m_M_putNumber.2.1 6 = .ok (.idiv, 1) := by decide +kernel
theorem d_M_putNumber_7 : decode m_M_putNumber.2.1 7 = .ok (.if_icmp .gt 11, 3) := by decide +kernel
theorem d_M_putNumber_10 : decode m_M_putNumber.2.1 10 = .ok (.iload_n 2, 1) := by decide +kernel
theorem d_M_putNumber_11 : decode m_M_putNumber.2.1 11 = .ok (.bipush 10, 2) := by decide +kernel
theorem d_M_putNumber_13 : decode m_M_putNumber.2.1 13 = .ok (.imul, 1) := by decide +kernel
theorem d_M_putNumber_14 : decode m_M_putNumber.2.1 14 = .ok (.istore_n 2, 1) := by decide +kernel
theorem d_M_putNumber_15 : decode m_M_putNumber.2.1 15 = .ok (.goto (-13), 3) := by decide +kernel
theorem d_M_putNumber_18 : decode m_M_putNumber.2.1 18 = .ok (.iload_n 2, 1) := by decide +kernel
theorem d_M_putNumber_19 : decode m_M_putNumber.2.1 19 = .ok (.ifCond .le 24, 3) := by decide +kernel
theorem d_M_putNumber_22 : decode m_M_putNumber.2.1 22 = .ok (.aload_n 0, 1) := by decide +kernel
theorem d_M_putNumber_23 : decode m_M_putNumber.2.1 23 = .ok (.bipush 48, 2) := by decide +kernel
theorem d_M_putNumber_25 : decode m_M_putNumber.2.1 25 = .ok (.iload_n 1, 1) := by decide +kernel
theorem d_M_putNumber_26 : decode m_M_putNumber.2.1 26 = .ok (.iload_n 2, 1) := by decide +kernel
theorem d_M_putNumber_27 : decode m_M_putNumber.2.1 27 = .ok (.idiv, 1) := by decide +kernel
theorem d_M_putNumber_28 : decode m_M_putNumber.2.1 28 = .ok (.bipush 10, 2) := by decide +kernel
theorem d_M_putNumber_30 : decode m_M_putNumber.2.1 30 = .ok (.irem, 1) := by decide +kernel
theorem d_M_putNumber_31 : decode m_M_putNumber.2.1 31 = .ok (.iadd, 1) := by decide +kernel
theorem d_M_putNumber_32 : decode m_M_putNumber.2.1 32 = .ok (.invokevirtual 153, 3) := by decide +kernel
theorem d_M_putNumber_35 : decode m_M_putNumber.2.1 35 = .ok (.iload_n 2, 1) := by decide +kernel
theorem d_M_putNumber_36 : decode m_M_putNumber.2.1 36 = .ok (.bipush 10, 2) := by decide +kernel
theorem d_M_putNumber_38 : decode m_M_putNumber.2.1 38 = .ok (.idiv, 1) := by decide +kernel
theorem d_M_putNumber_39 : decode m_M_putNumber.2.1 39 = .ok (.istore_n 2, 1) := by decide +kernel
theorem d_M_putNumber_40 : decode m_M_putNumber.2.1 40 = .ok (.goto (-22), 3) := by decide +kernel
theorem d_M_putNumber_43 : decode m_M_putNumber.2.1 43 = .ok (.return_, 1) := by decide +kernel
theorem d_M_out_0 : decode m_M_out.2.1 0 = .ok (.aload_n 0, 1) := by decide +kernel
theorem d_M_out_1 : decode m_M_out.2.1 1 = .ok (.iload_n 1, 1) := by decide +kernel
theorem d_M_out_2 : decode m_M_out.2.1 2 = .ok (.ifCond .lt 11, 3) := by decide +kernel
theorem d_M_out_5 : decode m_M_out.2.1 5 = .ok (.iload_n 1, 1) := by decide +kernel
theorem d_M_out_6 : decode m_M_out.2.1 6 = .ok (.aload_n 0, 1) := by decide +kernel
theorem d_M_out_7 : decode m_M_out.2.1 7 = .ok (.getfield 104, 3) := by decide +kernel
theorem d_M_out_10 : decode m_M_out.2.1 10 = .ok (.if_icmp .lt 7, 3) := by decide +kernel
theorem d_M_out_13 : decode m_M_out.2.1 13 = .ok (.iconst 1, 1) := by decide +kernel
theorem d_M_out_14 : decode m_M_out.2.1 14 = .ok (.goto 4, 3) := by decide +kernel
theorem d_M_out_17 : decode m_M_out.2.1 17 = .ok (.iconst 0, 1) := by decide +kernel
theorem d_M_out_18 : decode m_M_out.2.1 18 = .ok (.putfield 7, 3) := by decide +kernel
theorem d_M_out_21 : decode m_M_out.2.1 21 = .ok (.aload_n 0, 1) := by decide +kernel
theorem d_M_out_22 : decode m_M_out.2.1 22 = .ok (.getfield 7, 3) := by decide +kernel
theorem d_M_out_25 : decode m_M_out.2.1 25 = .ok (.ifCond .eq 7, 3) := by decide +kernel
theorem d_M_out_28 : decode m_M_out.2.1 28 = .ok (.iconst 0, 1) := by decide +kernel
theorem d_M_out_29 : decode m_M_out.2.1 29 = .ok (.goto 9, 3) := by decide +kernel
theorem d_M_out_32 : decode m_M_out.2.1 32 = .ok (.aload_n 0, 1) := by decide +kernel
theorem d_M_out_33 : decode m_M_out.2.1 33 = .ok (.getfield 107, 3) := by decide +kernel
theorem d_M_out_36 : decode m_M_out.2.1 36 = .ok (.iload_n 1, 1) := by decide +kernel
theorem d_M_out_37 : decode m_M_out.2.1 37 = .ok (.iaload, 1) := by decide +kernel
theorem d_M_out_38 : decode m_M_out.2.1 38 = .ok (.ireturn, 1) := by decide +kernel
theorem d_M_number_0 : decode m_M_number.2.1 0 = .ok (.aload_n 0, 1) := by decide +kernel
theorem d_M_number_1 : decode m_M_number.2.1 1 = .ok (.iload_n 1, 1) := by decide +kernel
theorem d_M_number_2 : decode m_M_number.2.1 2 = .ok (.bipush 32, 2) := by decide +kernel
theorem d_M_number_4 : decode m_M_number.2.1 4 = .ok (.bipush 126, 2) := by decide +kernel
theorem d_M_number_6 : decode m_M_number.2.1 6 = .ok (.invokestatic 156, 3) := by decide +kernel
theorem d_M_number_9 : decode m_M_number.2.1 9 = .ok (.ifCond .eq 7, 3) := by decide +kernel
theorem d_M_number_12 : decode m_M_number.2.1 12 = .ok (.iconst 1, 1) := by decide +kernel
theorem d_M_number_13 : decode m_M_number.2.1 13 = .ok (.goto 17, 3) := by decide +kernel
theorem d_M_number_16 : decode m_M_number.2.1 16 = .ok (.aload_n 0, 1) := by decide +kernel
theorem d_M_number_17 : decode m_M_number.2.1 17 = .ok (.getfield 110, 3) := by decide +kernel
theorem d_M_number_20 : decode m_M_number.2.1 20 = .ok (.bipush 20, 2) := by decide +kernel
theorem d_M_number_22 : decode m_M_number.2.1 22 = .ok (.if_icmp .ne 7, 3) := by decide +kernel
theorem d_M_number_25 : decode m_M_number.2.1 25 = .ok (.iconst 2, 1) := by decide +kernel
theorem d_M_number_26 : decode m_M_number.2.1 26 = .ok (.goto 4, 3) := by decide +kernel
theorem d_M_number_29 : decode m_M_number.2.1 29 = .ok (.iconst 0, 1) := by decide +kernel
theorem d_M_number_30 : decode m_M_number.2.1 30 = .ok (.putfield 7, 3) := by decide +kernel
theorem d_M_number_33 : decode m_M_number.2.1 33 = .ok (.aload_n 0, 1) := by decide +kernel
theorem d_M_number_34 : decode m_M_number.2.1 34 = .ok (.getfield 7, 3) := by decide +kernel
theorem d_M_number_37 : decode m_M_number.2.1 37 = .ok (.ifCond .eq 4, 3) := by decide +kernel
theorem d_M_number_40 : decode m_M_number.2.1 40 = .ok (.return_, 1) := by decide +kernel
theorem d_M_number_41 : decode m_M_number.2.1 41 = .ok (.aload_n 0, 1) := by decide +kernel
theorem d_M_number_42 : decode m_M_number.2.1 42 = .ok (.getfield 113, 3) := by decide +kernel
theorem d_M_number_45 : decode m_M_number.2.1 45 = .ok (.aload_n 0, 1) := by decide +kernel
theorem d_M_number_46 : decode m_M_number.2.1 46 = .ok (.getfield 110, 3) := by decide +kernel
theorem d_M_number_49 : decode m_M_number.2.1 49 = .ok (.iload_n 1, 1) := by decide +kernel
theorem d_M_number_50 : decode m_M_number.2.1 50 = .ok (.iastore, 1) := by decide +kernel
theorem d_M_number_51 : decode m_M_number.2.1 51 = .ok (.aload_n 0, 1) := by decide +kernel
theorem d_M_number_52 : decode m_M_number.2.1 52 = .ok (.dup, 1) := by decide +kernel
theorem d_M_number_53 : decode m_M_number.2.1 53 = .ok (.getfield 110, 3) := by decide +kernel
theorem d_M_number_56 : decode m_M_number.2.1 56 = .ok (.iconst 1, 1) := by decide +kernel
theorem d_M_number_57 : decode m_M_number.2.1 57 = .ok (.iadd, 1) := by decide +kernel
theorem d_M_number_58 : decode m_M_number.2.1 58 = .ok (.putfield 110, 3) := by decide +kernel
theorem d_M_number_61 : decode m_M_number.2.1 61 = .ok (.return_, 1) := by decide +kernel
theorem d_M_track_0 : decode m_M_track.2.1 0 = .ok (.aload_n 0, 1) := by decide +kernel
theorem d_M_track_1 : decode m_M_track.2.1 1 = .ok (.invokevirtual 167, 3) := by decide +kernel
theorem d_M_track_4 : decode m_M_track.2.1 4 = .ok (.istore_n 1, 1) := by decide +kernel
theorem d_M_track_5 : decode m_M_track.2.1 5 = .ok (.aload_n 0, 1) := by decide +kernel
theorem d_M_track_6 : decode m_M_track.2.1 6 = .ok (.iload_n 1, 1) := by decide +kernel
theorem d_M_track_7 : decode m_M_track.2.1 7 = .ok (.ifCond .ge 7, 3) := by decide +kernel
theorem d_M_track_10 : decode m_M_track.2.1 10 = .ok (.iconst 1, 1) := by decide +kernel
theorem d_M_track_11 : decode m_M_track.2.1 11 = .ok (.goto 4, 3) := by decide +kernel
theorem d_M_track_14 : decode m_M_track.2.1 14 = .ok (.iconst 0, 1) := by decide +kernel
theorem d_M_track_15 : decode m_M_track.2.1 15 = .ok (.putfield 7, 3) := by decide +kernel
theorem d_M_track_18 : decode m_M_track.2.1 18 = .ok (.aload_n 0, 1) := by decide +kernel
theorem d_M_track_19 : decode m_M_track.2.1 19 = .ok (.getfield 7, 3) := by decide +kernel
theorem d_M_track_22 : decode m_M_track.2.1 22 = .ok (.ifCond .eq 5, 3) := by decide +kernel
theorem d_M_track_25 : decode m_M_track.2.1 25 = .ok (.iconst 0, 1) := by decide +kernel
theorem d_M_track_26 : decode m_M_track.2.1 26 = .ok (.ireturn, 1) := by decide +kernel
theorem d_M_track_27 : decode m_M_track.2.1 27 = .ok (.aload_n 0, 1) := by decide +kernel
theorem d_M_track_28 : decode m_M_track.2.1 28 = .ok (.getfield 110, 3) := by decide +kernel
theorem d_M_track_31 : decode m_M_track.2.1 31 = .ok (.istore_n 2, 1) := by decide +kernel
theorem d_M_track_32 : decode m_M_track.2.1 32 = .ok (.aload_n 0, 1) := by decide +kernel
theorem d_M_track_33 : decode m_M_track.2.1 33 = .ok (.iconst 0, 1) := by decide +kernel
theorem d_M_track_34 : decode m_M_track.2.1 34 = .ok (.putfield 110, 3) := by decide +kernel
theorem d_M_track_37 : decode m_M_track.2.1 37 = .ok (.iload_n 2, 1) := by decide +kernel
theorem d_M_track_38 : decode m_M_track.2.1 38 = .ok (.bipush 8, 2) := by decide +kernel
theorem d_M_track_40 : decode m_M_track.2.1 40 = .ok (.if_icmp .eq 5, 3) := by decide +kernel
theorem d_M_track_43 : decode m_M_track.2.1 43 = .ok (.iconst (-1), 1) := by decide +kernel
theorem d_M_track_44 : decode m_M_track.2.1 44 = .ok (.ireturn, 1) := by decide +kernel
theorem d_M_track_45 : decode m_M_track.2.1 45 = .ok (.aload_n 0, 1) := by decide +kernel
theorem d_M_track_46 : decode m_M_track.2.1 46 = .ok (.getfield 113, 3) := by decide +kernel
theorem d_M_track_49 : decode m_M_track.2.1 49 = .ok (.iconst 0, 1) := by decide +kernel
theorem d_M_track_50 : decode m_M_track.2.1 50 = .ok (.iaload, 1) := by decide +kernel
theorem d_M_track_51 : decode m_M_track.2.1 51 = .ok (.bipush 65, 2) := by decide +kernel
theorem d_M_track_53 : decode m_M_track.2.1 53 = .ok (.bipush 90, 2) := by decide +kernel
theorem d_M_track_55 : decode m_M_track.2.1 55 = .ok (.invokestatic 156, 3) := by decide +kernel
theorem d_M_track_58 : decode m_M_track.2.1 58 = .ok (.ifCond .ne 51, 3) := by decide +kernel
theorem d_M_track_61 : decode m_M_track.2.1 61 = .ok (.aload_n 0, 1) := by decide +kernel
theorem d_M_track_62 : decode m_M_track.2.1 62 = .ok (.getfield 113, 3) := by decide +kernel
theorem d_M_track_65 : decode m_M_track.2.1 65 = .ok (.iconst 1, 1) := by decide +kernel
theorem d_M_track_66 : decode m_M_track.2.1 66 = .ok (.iaload, 1) := by decide +kernel
theorem d_M_track_67 : decode m_M_track.2.1 67 = .ok (.bipush 49, 2) := by decide +kernel
theorem d_M_track_69 : decode m_M_track.2.1 69 = .ok (.bipush 57, 2) := by decide +kernel
theorem d_M_track_71 : decode m_M_track.2.1 71 = .ok (.invokestatic 156, 3) := by decide +kernel
theorem d_M_track_74 : decode m_M_track.2.1 74 = .ok (.ifCond .ne 35, 3) := by decide +kernel
theorem d_M_track_77 : decode m_M_track.2.1 77 = .ok (.aload_n 0, 1) := by decide +kernel
theorem d_M_track_78 : decode m_M_track.2.1 78 = .ok (.getfield 113, 3) := by decide +kernel
theorem d_M_track_81 : decode m_M_track.2.1 81 = .ok (.iconst 2, 1) := by decide +kernel
theorem d_M_track_82 : decode m_M_track.2.1 82 = .ok (.iaload, 1) := by decide +kernel
theorem d_M_track_83 : decode m_M_track.2.1 83 = .ok (.bipush 45, 2) := by decide +kernel
theorem d_M_track_85 : decode m_M_track.2.1 85 = .ok (.if_icmp .ne 24, 3) := by decide +kernel
theorem d_M_track_88 : decode m_M_track.2.1 88 = .ok (.aload_n 0, 1) := by decide +kernel
theorem d_M_track_89 : decode m_M_track.2.1 89 = .ok (.getfield 113, 3) := by decide +kernel
theorem d_M_track_92 : decode m_M_track.2.1 92 = .ok (.bipush 7, 2) := by decide +kernel
theorem d_M_track_94 : decode m_M_track.2.1 94 = .ok (.iaload, 1) := by decide +kernel
theorem d_M_track_95 : decode m_M_track.2.1 95 = .ok (.bipush 65, 2) := by decide +kernel
theorem d_M_track_97 : decode m_M_track.2.1 97 = .ok (.bipush 90, 2) := by decide +kernel
theorem d_M_track_99 : decode m_M_track.2.1 99 = .ok (.invokestatic 156, 3) := by decide +kernel
theorem d_M_track_102 : decode m_M_track.2.1 102 = .ok (.ifCond .ne 7, 3) := by decide +kernel
theorem d_M_track_105 : decode m_M_track.2.1 105 = .ok (.iconst 1, 1) := by decide +kernel
theorem d_M_track_106 : decode m_M_track.2.1 106 = .ok (.goto 4, 3) := by decide +kernel
theorem d_M_track_109 : decode m_M_track.2.1 109 = .ok (.iconst 0, 1) := by decide +kernel
theorem d_M_track_110 : decode m_M_track.2.1 110 = .ok (.istore_n 3, 1) := by decide +kernel
theorem d_M_track_111 : decode m_M_track.2.1 111 = .ok (.iconst 0, 1) := by decide +kernel
theorem d_M_track_112 : decode m_M_track.2.1 112 = .ok (.istore 4, 2) := by decide +kernel
theorem d_M_track_114 : decode m_M_track.2.1 114 = .ok (.iconst 3, 1) := by decide +kernel
theorem d_M_track_115 : decode m_M_track.2.1 115 = .ok (.istore 5, 2) := by decide +kernel
theorem d_M_track_117 : decode m_M_track.2.1 117 = .ok (.iload 5, 2) := by decide +kernel
theorem d_M_track_119 : decode m_M_track.2.1 119 = .ok (.bipush 7, 2) := by decide +kernel
theorem d_M_track_121 : decode m_M_track.2.1 121 = .ok (.if_icmp .ge 50, 3) := by decide +kernel
theorem d_M_track_124 : decode m_M_track.2.1 124 = .ok (.iload_n 3, 1) := by decide +kernel
theorem d_M_track_125 : decode m_M_track.2.1 125 = .ok (.ifCond .eq 20, 3) := by decide +kernel
theorem d_M_track_128 : decode m_M_track.2.1 128 = .ok (.aload_n 0, 1) := by decide +kernel
theorem d_M_track_129 : decode m_M_track.2.1 129 = .ok (.getfield 113, 3) := by decide +kernel
theorem d_M_track_132 : decode m_M_track.2.1 132 = .ok (.iload 5, 2) := by decide +kernel
theorem d_M_track_134 : decode m_M_track.2.1 134 = .ok (.iaload, 1) := by decide +kernel
theorem d_M_track_135 : decode m_M_track.2.1 135 = .ok (.invokestatic 124, 3) := by decide +kernel
theorem d_M_track_138 : decode m_M_track.2.1 138 = .ok (.ifCond .eq 7, 3) := by decide +kernel
theorem d_M_track_141 : decode m_M_track.2.1 141 = .ok (.iconst 1, 1) := by decide +kernel
theorem d_M_track_142 : decode m_M_track.2.1 142 = .ok (.goto 4, 3) := by decide +kernel
theorem d_M_track_145 : decode m_M_track.2.1 145 = .ok (.iconst 0, 1) := by decide +kernel
theorem d_M_track_146 : decode m_M_track.2.1 146 = .ok (.istore_n 3, 1) := by decide +kernel
theorem d_M_track_147 : decode m_M_track.2.1 147 = .ok (.bipush 10, 2) := by decide +kernel
theorem d_M_track_149 : decode m_M_track.2.1 149 = .ok (.iload 4, 2) := by decide +kernel
theorem d_M_track_151 : decode m_M_track.2.1 151 = .ok (.imul, 1) := by decide +kernel
theorem d_M_track_152 : decode m_M_track.2.1 152 = .ok (.aload_n 0, 1) := by decide +kernel
theorem d_M_track_153 : decode m_M_track.2.1 153 = .ok (.getfield 113, 3) := by decide +kernel
theorem d_M_track_156 : decode m_M_track.2.1 156 = .ok (.iload 5, 2) := by decide +kernel
theorem d_M_track_158 : decode m_M_track.2.1 158 = .ok (.iaload, 1) := by decide +kernel
theorem d_M_track_159 : decode m_M_track.2.1 159 = .ok (.iadd, 1) := by decide +kernel
theorem d_M_track_160 : decode m_M_track.2.1 160 = .ok (.bipush 48, 2) := by decide +kernel
theorem d_M_track_162 : decode m_M_track.2.1 162 = .ok (.isub, 1) := by decide +kernel
theorem d_M_track_163 : decode m_M_track.2.1 163 = .ok (.istore 4, 2) := by decide +kernel
theorem d_M_track_165 : decode m_M_track.2.1 165 = .ok (.iinc 5 1, 3) := by decide +kernel
theorem d_M_track_168 : decode m_M_track.2.1 168 = .ok (.goto (-51), 3) := by decide +kernel
theorem d_M_track_171 : decode m_M_track.2.1 171 = .ok (.iload_n 3, 1) := by decide +kernel
theorem d_M_track_172 : decode m_M_track.2.1 172 = .ok (.ifCond .ne 6, 3) := by decide +kernel
theorem d_M_track_175 : decode m_M_track.2.1 175 = .ok (.bipush (-2), 2) := by decide +kernel
theorem d_M_track_177 : decode m_M_track.2.1 177 = .ok (.ireturn, 1) := by decide +kernel
theorem d_M_track_178 : decode m_M_track.2.1 178 = .ok (.aload_n 0, 1) := by decide +kernel
theorem d_M_track_179 : decode m_M_track.2.1 179 = .ok (.iload_n 1, 1) := by decide +kernel
theorem d_M_track_180 : decode m_M_track.2.1 180 = .ok (.aload_n 0, 1) := by decide +kernel
theorem d_M_track_181 : decode m_M_track.2.1 181 = .ok (.getfield 113, 3) := by decide +kernel
theorem d_M_track_184 : decode m_M_track.2.1 184 = .ok (.iconst 0, 1) := by decide +kernel
theorem d_M_track_185 : decode m_M_track.2.1 185 = .ok (.iaload, 1) := by decide +kernel
theorem d_M_track_186 : decode m_M_track.2.1 186 = .ok (.invokevirtual 170, 3) := by decide +kernel
theorem d_M_track_189 : decode m_M_track.2.1 189 = .ok (.istore 5, 2) := by decide +kernel
theorem d_M_track_191 : decode m_M_track.2.1 191 = .ok (.iload 5, 2) := by decide +kernel
theorem d_M_track_193 : decode m_M_track.2.1 193 = .ok (.ifCond .ge 6, 3) := by decide +kernel
theorem d_M_track_196 : decode m_M_track.2.1 196 = .ok (.bipush (-3), 2) := by decide +kernel
theorem d_M_track_198 : decode m_M_track.2.1 198 = .ok (.ireturn, 1) := by decide +kernel
theorem d_M_track_199 : decode m_M_track.2.1 199 = .ok (.aload_n 0, 1) := by decide +kernel
theorem d_M_track_200 : decode m_M_track.2.1 200 = .ok (.getfield 113, 3) := by decide +kernel
theorem d_M_track_203 : decode m_M_track.2.1 203 = .ok (.iconst 1, 1) := by decide +kernel
theorem d_M_track_204 : decode m_M_track.2.1 204 = .ok (.iaload, 1) := by decide +kernel
theorem d_M_track_205 : decode m_M_track.2.1 205 = .ok (.bipush 48, 2) := by decide +kernel
theorem d_M_track_207 : decode m_M_track.2.1 207 = .ok (.isub, 1) := by decide +kernel
theorem d_M_track_208 : decode m_M_track.2.1 208 = .ok (.istore 6, 2) := by decide +kernel
theorem d_M_track_210 : decode m_M_track.2.1 210 = .ok (.aload_n 0, 1) := by decide +kernel
theorem d_M_track_211 : decode m_M_track.2.1 211 = .ok (.iload_n 1, 1) := by decide +kernel
theorem d_M_track_212 : decode m_M_track.2.1 212 = .ok (.iload 4, 2) := by decide +kernel
theorem d_M_track_214 : decode m_M_track.2.1 214 = .ok (.invokevirtual 177, 3) := by decide +kernel
theorem d_M_track_217 : decode m_M_track.2.1 217 = .ok (.iload 6, 2) := by decide +kernel
theorem d_M_track_219 : decode m_M_track.2.1 219 = .ok (.if_icmp .ne 18, 3) := by decide +kernel
theorem d_M_track_222 : decode m_M_track.2.1 222 = .ok (.aload_n 0, 1) := by decide +kernel
theorem d_M_track_223 : decode m_M_track.2.1 223 = .ok (.getfield 35, 3) := by decide +kernel
theorem d_M_track_226 : decode m_M_track.2.1 226 = .ok (.iload 5, 2) := by decide +kernel
theorem d_M_track_228 : decode m_M_track.2.1 228 = .ok (.iaload, 1) := by decide +kernel
theorem d_M_track_229 : decode m_M_track.2.1 229 = .ok (.iload 6, 2) := by decide +kernel
theorem d_M_track_231 : decode m_M_track.2.1 231 = .ok (.ishr, 1) := by decide +kernel
theorem d_M_track_232 : decode m_M_track.2.1 232 = .ok (.iconst 1, 1) := by decide +kernel
theorem d_M_track_233 : decode m_M_track.2.1 233 = .ok (.iand, 1) := by decide +kernel
theorem d_M_track_234 : decode m_M_track.2.1 234 = .ok (.ifCond .ne 6, 3) := by decide +kernel
theorem d_M_track_237 : decode m_M_track.2.1 237 = .ok (.bipush (-4), 2) := by decide +kernel
theorem d_M_track_239 : decode m_M_track.2.1 239 = .ok (.ireturn, 1) := by decide +kernel
theorem d_M_track_240 : decode m_M_track.2.1 240 = .ok (.aload_n 0, 1) := by decide +kernel
theorem d_M_track_241 : decode m_M_track.2.1 241 = .ok (.getfield 113, 3) := by decide +kernel
theorem d_M_track_244 : decode m_M_track.2.1 244 = .ok (.invokestatic 180, 3) := by decide +kernel
theorem d_M_track_247 : decode m_M_track.2.1 247 = .ok (.aload_n 0, 1) := by decide +kernel
theorem d_M_track_248 : decode m_M_track.2.1 248 = .ok (.getfield 113, 3) := by decide +kernel
theorem d_M_track_251 : decode m_M_track.2.1 251 = .ok (.bipush 7, 2) := by decide +kernel
theorem d_M_track_253 : decode m_M_track.2.1 253 = .ok (.iaload, 1) := by decide +kernel
theorem d_M_track_254 : decode m_M_track.2.1 254 = .ok (.if_icmp .ne 7, 3) := by decide +kernel
theorem d_M_track_257 : decode m_M_track.2.1 257 = .ok (.iconst 1, 1) := by decide +kernel
theorem d_M_track_258 : decode m_M_track.2.1 258 = .ok (.goto 5, 3) := by decide +kernel
theorem d_M_track_261 : decode m_M_track.2.1 261 = .ok (.bipush (-5), 2) := by decide +kernel
theorem d_M_track_263 : decode m_M_track.2.1 263 = .ok (.ireturn, 1) := by decide +kernel
theorem d_M_told_0 : decode m_M_told.2.1 0 = .ok (.aload_n 0, 1) := by decide +kernel
theorem d_M_told_1 : decode m_M_told.2.1 1 = .ok (.iload_n 1, 1) := by decide +kernel
theorem d_M_told_2 : decode m_M_told.2.1 2 = .ok (.iconst 1, 1) := by decide +kernel
theorem d_M_told_3 : decode m_M_told.2.1 3 = .ok (.aload_n 0, 1) := by decide +kernel
theorem d_M_told_4 : decode m_M_told.2.1 4 = .ok (.getfield 20, 3) := by decide +kernel
theorem d_M_told_7 : decode m_M_told.2.1 7 = .ok (.invokestatic 156, 3) := by decide +kernel
theorem d_M_told_10 : decode m_M_told.2.1 10 = .ok (.ifCond .eq 7, 3) := by decide +kernel
theorem d_M_told_13 : decode m_M_told.2.1 13 = .ok (.iconst 1, 1) := by decide +kernel
theorem d_M_told_14 : decode m_M_told.2.1 14 = .ok (.goto 17, 3) := by decide +kernel
theorem d_M_told_17 : decode m_M_told.2.1 17 = .ok (.iload_n 2, 1) := by decide +kernel
theorem d_M_told_18 : decode m_M_told.2.1 18 = .ok (.iconst 0, 1) := by decide +kernel
theorem d_M_told_19 : decode m_M_told.2.1 19 = .ok (.iconst 3, 1) := by decide +kernel
theorem d_M_told_20 : decode m_M_told.2.1 20 = .ok (.invokestatic 156, 3) := by decide +kernel
theorem d_M_told_23 : decode m_M_told.2.1 23 = .ok (.ifCond .eq 7, 3) := by decide +kernel
theorem d_M_told_26 : decode m_M_told.2.1 26 = .ok (.iconst 2, 1) := by decide +kernel
theorem d_M_told_27 : decode m_M_told.2.1 27 = .ok (.goto 4, 3) := by decide +kernel
theorem d_M_told_30 : decode m_M_told.2.1 30 = .ok (.iconst 0, 1) := by decide +kernel
theorem d_M_told_31 : decode m_M_told.2.1 31 = .ok (.putfield 7, 3) := by decide +kernel
theorem d_M_told_34 : decode m_M_told.2.1 34 = .ok (.aload_n 0, 1) := by decide +kernel
theorem d_M_told_35 : decode m_M_told.2.1 35 = .ok (.getfield 7, 3) := by decide +kernel
theorem d_M_told_38 : decode m_M_told.2.1 38 = .ok (.ifCond .eq 5, 3) := by decide +kernel
theorem d_M_told_41 : decode m_M_told.2.1 41 = .ok (.iconst 0, 1) := by decide +kernel
theorem d_M_told_42 : decode m_M_told.2.1 42 = .ok (.ireturn, 1) := by decide +kernel
theorem d_M_told_43 : decode m_M_told.2.1 43 = .ok (.iconst 0, 1) := by decide +kernel
theorem d_M_told_44 : decode m_M_told.2.1 44 = .ok (.istore_n 3, 1) := by decide +kernel
theorem d_M_told_45 : decode m_M_told.2.1 45 = .ok (.bipush 8, 2) := by decide +kernel
theorem d_M_told_47 : decode m_M_told.2.1 47 = .ok (.iload_n 1, 1) := by decide +kernel
theorem d_M_told_48 : decode m_M_told.2.1 48 = .ok (.imul, 1) := by decide +kernel
theorem d_M_told_49 : decode m_M_told.2.1 49 = .ok (.bipush 8, 2) := by decide +kernel
theorem d_M_told_51 : decode m_M_told.2.1 51 = .ok (.isub, 1) := by decide +kernel
theorem d_M_told_52 : decode m_M_told.2.1 52 = .ok (.istore 4, 2) := by decide +kernel
theorem d_M_told_54 : decode m_M_told.2.1 54 = .ok (.iload 4, 2) := by decide +kernel
theorem d_M_told_56 : decode m_M_told.2.1 56 = .ok (.bipush 8, 2) := by decide +kernel
theorem d_M_told_58 : decode m_M_told.2.1 58 = .ok (.iload_n 1, 1) := by decide +kernel
theorem d_M_told_59 : decode m_M_told.2.1 59 = .ok (.imul, 1) := by decide +kernel
theorem d_M_told_60 : decode m_M_told.2.1 60 = .ok (.bipush 8, 2) := by decide +kernel
theorem d_M_told_62 : decode m_M_told.2.1 62 = .ok (.isub, 1) := by decide +kernel
theorem d_M_told_63 : decode m_M_told.2.1 63 = .ok (.aload_n 0, 1) := by decide +kernel
theorem d_M_told_64 : decode m_M_told.2.1 64 = .ok (.getfield 29, 3) := by decide +kernel
theorem d_M_told_67 : decode m_M_told.2.1 67 = .ok (.iload_n 1, 1) := by decide +kernel
theorem d_M_told_68 : decode m_M_told.2.1 68 = .ok (.iconst 1, 1) := by decide +kernel
theorem d_M_told_69 : decode m_M_told.2.1 69 = .ok (.isub, 1) := by decide +kernel
theorem d_M_told_70 : decode m_M_told.2.1 70 = .ok (.iaload, 1) := by decide +kernel
theorem d_M_told_71 : decode m_M_told.2.1 71 = .ok (.iadd, 1) := by decide +kernel
theorem d_M_told_72 : decode m_M_told.2.1 72 = .ok (.if_icmp .ge 27, 3) := by decide +kernel
theorem d_M_told_75 : decode m_M_told.2.1 75 = .ok (.iload_n 3, 1) := by decide +kernel
theorem d_M_told_76 : decode m_M_told.2.1 76 = .ok (.aload_n 0, 1) := by decide +kernel
theorem d_M_told_77 : decode m_M_told.2.1 77 = .ok (.getfield 53, 3) := by decide +kernel
theorem d_M_told_80 : decode m_M_told.2.1 80 = .ok (.iload 4, 2) := by decide +kernel
theorem d_M_told_82 : decode m_M_told.2.1 82 = .ok (.iaload, 1) := by decide +kernel
theorem d_M_told_83 : decode m_M_told.2.1 83 = .ok (.ifCond .lt 7, 3) := by decide +kernel
theorem d_M_told_86 : decode m_M_told.2.1 86 = .ok (.iconst 1, 1) := by decide +kernel
theorem d_M_told_87 : decode m_M_told.2.1 87 = .ok (.goto 4, 3) := by decide +kernel
theorem d_M_told_90 : decode m_M_told.2.1 90 = .ok (.iconst 0, 1) := by decide +kernel
theorem d_M_told_91 : decode m_M_told.2.1 91 = .ok (.iadd, 1) := by decide +kernel
theorem d_M_told_92 : decode m_M_told.2.1 92 = .ok (.istore_n 3, 1) := by decide +kernel
theorem d_M_told_93 : decode m_M_told.2.1 93 = .ok (.iinc 4 1, 3) := by decide +kernel
theorem d_M_told_96 : decode m_M_told.2.1 96 = .ok (.goto (-42), 3) := by decide +kernel
theorem d_M_told_99 : decode m_M_told.2.1 99 = .ok (.iload_n 2, 1) := by decide +kernel
theorem d_M_told_100 : decode m_M_told.2.1 100 = .ok (.ifCond .ne 14, 3) := by decide +kernel
theorem d_M_told_103 : decode m_M_told.2.1 103 = .ok (.aload_n 0, 1) := by decide +kernel
theorem d_M_told_104 : decode m_M_told.2.1 104 = .ok (.getfield 23, 3) := by decide +kernel
theorem d_M_told_107 : decode m_M_told.2.1 107 = .ok (.iload_n 1, 1) := by decide +kernel
theorem d_M_told_108 : decode m_M_told.2.1 108 = .ok (.iconst 1, 1) := by decide +kernel
theorem d_M_told_109 : decode m_M_told.2.1 109 = .ok (.isub, 1) := by decide +kernel
theorem d_M_told_110 : decode m_M_told.2.1 110 = .ok (.iaload, 1) := by decide +kernel
theorem d_M_told_111 : decode m_M_told.2.1 111 = .ok (.goto 36, 3) := by decide +kernel
theorem d_M_told_114 : decode m_M_told.2.1 114 = .ok (.iload_n 2, 1) := by decide +kernel
theorem d_M_told_115 : decode m_M_told.2.1 115 = .ok (.iconst 1, 1) := by decide +kernel
theorem d_M_told_116 : decode m_M_told.2.1 116 = .ok (.if_icmp .ne 14, 3) := by decide +kernel
theorem d_M_told_119 : decode m_M_told.2.1 119 = .ok (.aload_n 0, 1) := by decide +kernel
theorem d_M_told_120 : decode m_M_told.2.1 120 = .ok (.getfield 29, 3) := by decide +kernel
theorem d_M_told_123 : decode m_M_told.2.1 123 = .ok (.iload_n 1, 1) := by decide +kernel
theorem d_M_told_124 : decode m_M_told.2.1 124 = .ok (.iconst 1, 1) := by decide +kernel
theorem d_M_told_125 : decode m_M_told.2.1 125 = .ok (.isub, 1) := by decide +kernel
theorem d_M_told_126 : decode m_M_told.2.1 126 = .ok (.iaload, 1) := by decide +kernel
theorem d_M_told_127 : decode m_M_told.2.1 127 = .ok (.goto 20, 3) := by decide +kernel
theorem d_M_told_130 : decode m_M_told.2.1 130 = .ok (.iload_n 2, 1) := by decide +kernel
theorem d_M_told_131 : decode m_M_told.2.1 131 = .ok (.iconst 2, 1) := by decide +kernel
theorem d_M_told_132 : decode m_M_told.2.1 132 = .ok (.if_icmp .ne 14, 3) := by decide +kernel
theorem d_M_told_135 : decode m_M_told.2.1 135 = .ok (.aload_n 0, 1) := by decide +kernel
theorem d_M_told_136 : decode m_M_told.2.1 136 = .ok (.getfield 59, 3) := by decide +kernel
theorem d_M_told_139 : decode m_M_told.2.1 139 = .ok (.iload_n 1, 1) := by decide +kernel
theorem d_M_told_140 : decode m_M_told.2.1 140 = .ok (.iconst 1, 1) := by decide +kernel
theorem d_M_told_141 : decode m_M_told.2.1 141 = .ok (.isub, 1) := by decide +kernel
theorem d_M_told_142 : decode m_M_told.2.1 142 = .ok (.iaload, 1) := by decide +kernel
theorem d_M_told_143 : decode m_M_told.2.1 143 = .ok (.goto 4, 3) := by decide +kernel
theorem d_M_told_146 : decode m_M_told.2.1 146 = .ok (.iload_n 3, 1) := by decide +kernel
theorem d_M_told_147 : decode m_M_told.2.1 147 = .ok (.ireturn, 1) := by decide +kernel
theorem d_M_count_0 : decode m_M_count.2.1 0 = .ok (.aload_n 0, 1) := by decide +kernel
theorem d_M_count_1 : decode m_M_count.2.1 1 = .ok (.iconst 0, 1) := by decide +kernel
theorem d_M_count_2 : decode m_M_count.2.1 2 = .ok (.putfield 7, 3) := by decide +kernel
theorem d_M_count_5 : decode m_M_count.2.1 5 = .ok (.iload_n 1, 1) := by decide +kernel
theorem d_M_count_6 : decode m_M_count.2.1 6 = .ok (.tableswitch 70 0 5 #[38, 43, 48, 53, 60, 65], 38) := by decide +kernel
theorem d_M_count_44 : decode m_M_count.2.1 44 = .ok (.aload_n 0, 1) := by decide +kernel
theorem d_M_count_45 : decode m_M_count.2.1 45 = .ok (.getfield 20, 3) := by decide +kernel
theorem d_M_count_48 : decode m_M_count.2.1 48 = .ok (.ireturn, 1) := by decide +kernel
theorem d_M_count_49 : decode m_M_count.2.1 49 = .ok (.aload_n 0, 1) := by decide +kernel
theorem d_M_count_50 : decode m_M_count.2.1 50 = .ok (.getfield 17, 3) := by decide +kernel
theorem d_M_count_53 : decode m_M_count.2.1 53 = .ok (.ireturn, 1) := by decide +kernel
theorem d_M_count_54 : decode m_M_count.2.1 54 = .ok (.aload_n 0, 1) := by decide +kernel
theorem d_M_count_55 : decode m_M_count.2.1 55 = .ok (.getfield 110, 3) := by decide +kernel
theorem d_M_count_58 : decode m_M_count.2.1 58 = .ok (.ireturn, 1) := by decide +kernel
theorem d_M_count_59 : decode m_M_count.2.1 59 = .ok (.aload_n 0, 1) := by decide +kernel
theorem d_M_count_60 : decode m_M_count.2.1 60 = .ok (.invokevirtual 167, 3) := by decide +kernel
theorem d_M_count_63 : decode m_M_count.2.1 63 = .ok (.iconst 1, 1) := by decide +kernel
theorem d_M_count_64 : decode m_M_count.2.1 64 = .ok (.iadd, 1) := by decide +kernel
theorem d_M_count_65 : decode m_M_count.2.1 65 = .ok (.ireturn, 1) := by decide +kernel
theorem d_M_count_66 : decode m_M_count.2.1 66 = .ok (.aload_n 0, 1) := by decide +kernel
theorem d_M_count_67 : decode m_M_count.2.1 67 = .ok (.getfield 26, 3) := by decide +kernel
theorem d_M_count_70 : decode m_M_count.2.1 70 = .ok (.ireturn, 1) := by decide +kernel
theorem d_M_count_71 : decode m_M_count.2.1 71 = .ok (.aload_n 0, 1) := by decide +kernel
theorem d_M_count_72 : decode m_M_count.2.1 72 = .ok (.getfield 104, 3) := by decide +kernel
theorem d_M_count_75 : decode m_M_count.2.1 75 = .ok (.ireturn, 1) := by decide +kernel
theorem d_M_count_76 : decode m_M_count.2.1 76 = .ok (.iconst (-1), 1) := by decide +kernel
theorem d_M_count_77 : decode m_M_count.2.1 77 = .ok (.ireturn, 1) := by decide +kernel
