theorem dCO_kind_0 : decode mCO_kind.2.1 0 = .ok (.iload_n 0, 1) := by decide +kernel
theorem dCO_kind_1 : decode mCO_kind.2.1 1 = .ok (.bipush 15, 2) := by decide +kernel
theorem dCO_kind_3 : decode mCO_kind.2.1 3 = .ok (.iand, 1) := by decide +kernel
theorem dCO_kind_4 : decode mCO_kind.2.1 4 = .ok (.ireturn, 1) := by decide +kernel
theorem dCO_x_0 : decode mCO_x.2.1 0 = .ok (.iload_n 0, 1) := by decide +kernel
theorem dCO_x_1 : decode mCO_x.2.1 1 = .ok (.iconst 4, 1) := by decide +kernel
theorem dCO_x_2 : decode mCO_x.2.1 2 = .ok (.ishr, 1) := by decide +kernel
theorem dCO_x_3 : decode mCO_x.2.1 3 = .ok (.bipush 63, 2) := by decide +kernel
theorem dCO_x_5 : decode mCO_x.2.1 5 = .ok (.iand, 1) := by decide +kernel
theorem dCO_x_6 : decode mCO_x.2.1 6 = .ok (.ireturn, 1) := by decide +kernel
theorem dCO_y_0 : decode mCO_y.2.1 0 = .ok (.iload_n 0, 1) := by decide +kernel
theorem dCO_y_1 : decode mCO_y.2.1 1 = .ok (.bipush 10, 2) := by decide +kernel
theorem dCO_y_3 : decode mCO_y.2.1 3 = .ok (.ishr, 1) := by decide +kernel
theorem dCO_y_4 : decode mCO_y.2.1 4 = .ok (.bipush 63, 2) := by decide +kernel
theorem dCO_y_6 : decode mCO_y.2.1 6 = .ok (.iand, 1) := by decide +kernel
theorem dCO_y_7 : decode mCO_y.2.1 7 = .ok (.ireturn, 1) := by decide +kernel
theorem dCO_z_0 : decode mCO_z.2.1 0 = .ok (.iload_n 0, 1) := by decide +kernel
theorem dCO_z_1 : decode mCO_z.2.1 1 = .ok (.bipush 16, 2) := by decide +kernel
theorem dCO_z_3 : decode mCO_z.2.1 3 = .ok (.ishr, 1) := by decide +kernel
theorem dCO_z_4 : decode mCO_z.2.1 4 = .ok (.bipush 63, 2) := by decide +kernel
theorem dCO_z_6 : decode mCO_z.2.1 6 = .ok (.iand, 1) := by decide +kernel
theorem dCO_z_7 : decode mCO_z.2.1 7 = .ok (.ireturn, 1) := by decide +kernel
theorem dCO_d_0 : decode mCO_d.2.1 0 = .ok (.iload_n 0, 1) := by decide +kernel
theorem dCO_d_1 : decode mCO_d.2.1 1 = .ok (.bipush 22, 2) := by decide +kernel
theorem dCO_d_3 : decode mCO_d.2.1 3 = .ok (.ishr, 1) := by decide +kernel
theorem dCO_d_4 : decode mCO_d.2.1 4 = .ok (.bipush 15, 2) := by decide +kernel
theorem dCO_d_6 : decode mCO_d.2.1 6 = .ok (.iand, 1) := by decide +kernel
theorem dCO_d_7 : decode mCO_d.2.1 7 = .ok (.ireturn, 1) := by decide +kernel
theorem dCO_speaker_0 : decode mCO_speaker.2.1 0 = .ok (.iload_n 0, 1) := by decide +kernel
theorem dCO_speaker_1 : decode mCO_speaker.2.1 1 = .ok (.bipush 26, 2) := by decide +kernel
theorem dCO_speaker_3 : decode mCO_speaker.2.1 3 = .ok (.ishr, 1) := by decide +kernel
theorem dCO_speaker_4 : decode mCO_speaker.2.1 4 = .ok (.iconst 3, 1) := by decide +kernel
theorem dCO_speaker_5 : decode mCO_speaker.2.1 5 = .ok (.iand, 1) := by decide +kernel
theorem dCO_speaker_6 : decode mCO_speaker.2.1 6 = .ok (.iconst 1, 1) := by decide +kernel
theorem dCO_speaker_7 : decode mCO_speaker.2.1 7 = .ok (.isub, 1) := by decide +kernel
theorem dCO_speaker_8 : decode mCO_speaker.2.1 8 = .ok (.ireturn, 1) := by decide +kernel
theorem dCO_isSo_0 : decode mCO_isSo.2.1 0 = .ok (.iload_n 0, 1) := by decide +kernel
theorem dCO_isSo_1 : decode mCO_isSo.2.1 1 = .ok (.tableswitch 210 0 8 #[51, 62, 73, 84, 104, 124, 152, 163, 180], 51) := by decide +kernel
theorem dCO_isSo_52 : decode mCO_isSo.2.1 52 = .ok (.iload_n 2, 1) := by decide +kernel
theorem dCO_isSo_53 : decode mCO_isSo.2.1 53 = .ok (.iload_n 3, 1) := by decide +kernel
theorem dCO_isSo_54 : decode mCO_isSo.2.1 54 = .ok (.if_icmp .ne 7, 3) := by decide +kernel
theorem dCO_isSo_57 : decode mCO_isSo.2.1 57 = .ok (.iconst 1, 1) := by decide +kernel
theorem dCO_isSo_58 : decode mCO_isSo.2.1 58 = .ok (.goto 4, 3) := by decide +kernel
theorem dCO_isSo_61 : decode mCO_isSo.2.1 61 = .ok (.iconst 0, 1) := by decide +kernel
theorem dCO_isSo_62 : decode mCO_isSo.2.1 62 = .ok (.ireturn, 1) := by decide +kernel
theorem dCO_isSo_63 : decode mCO_isSo.2.1 63 = .ok (.iload_n 2, 1) := by decide +kernel
theorem dCO_isSo_64 : decode mCO_isSo.2.1 64 = .ok (.iload_n 3, 1) := by decide +kernel
theorem dCO_isSo_65 : decode mCO_isSo.2.1 65 = .ok (.if_icmp .eq 7, 3) := by decide +kernel
theorem dCO_isSo_68 : decode mCO_isSo.2.1 68 = .ok (.iconst 1, 1) := by decide +kernel
theorem dCO_isSo_69 : decode mCO_isSo.2.1 69 = .ok (.goto 4, 3) := by decide +kernel
theorem dCO_isSo_72 : decode mCO_isSo.2.1 72 = .ok (.iconst 0, 1) := by decide +kernel
theorem dCO_isSo_73 : decode mCO_isSo.2.1 73 = .ok (.ireturn, 1) := by decide +kernel
theorem dCO_isSo_74 : decode mCO_isSo.2.1 74 = .ok (.iload_n 2, 1) := by decide +kernel
theorem dCO_isSo_75 : decode mCO_isSo.2.1 75 = .ok (.iload_n 3, 1) := by decide +kernel
theorem dCO_isSo_76 : decode mCO_isSo.2.1 76 = .ok (.if_icmp .ge 7, 3) := by decide +kernel
theorem dCO_isSo_79 : decode mCO_isSo.2.1 79 = .ok (.iconst 1, 1) := by decide +kernel
theorem dCO_isSo_80 : decode mCO_isSo.2.1 80 = .ok (.goto 4, 3) := by decide +kernel
theorem dCO_isSo_83 : decode mCO_isSo.2.1 83 = .ok (.iconst 0, 1) := by decide +kernel
theorem dCO_isSo_84 : decode mCO_isSo.2.1 84 = .ok (.ireturn, 1) := by decide +kernel
theorem dCO_isSo_85 : decode mCO_isSo.2.1 85 = .ok (.iload_n 2, 1) := by decide +kernel
theorem dCO_isSo_86 : decode mCO_isSo.2.1 86 = .ok (.iload_n 3, 1) := by decide +kernel
theorem dCO_isSo_87 : decode mCO_isSo.2.1 87 = .ok (.isub, 1) := by decide +kernel
theorem dCO_isSo_88 : decode mCO_isSo.2.1 88 = .ok (.iconst 1, 1) := by decide +kernel
theorem dCO_isSo_89 : decode mCO_isSo.2.1 89 = .ok (.if_icmp .eq 10, 3) := by decide +kernel
theorem dCO_isSo_92 : decode mCO_isSo.2.1 92 = .ok (.iload_n 3, 1) := by decide +kernel
theorem dCO_isSo_93 : decode mCO_isSo.2.1 93 = .ok (.iload_n 2, 1) := by decide +kernel
theorem dCO_isSo_94 : decode mCO_isSo.2.1 94 = .ok (.isub, 1) := by decide +kernel
theorem dCO_isSo_95 : decode mCO_isSo.2.1 95 = .ok (.iconst 1, 1) := by decide +kernel
theorem dCO_isSo_96 : decode mCO_isSo.2.1 96 = .ok (.if_icmp .ne 7, 3) := by decide +kernel
theorem dCO_isSo_99 : decode mCO_isSo.2.1 99 = .ok (.iconst 1, 1) := by decide +kernel
theorem dCO_isSo_100 : decode mCO_isSo.2.1 100 = .ok (.goto 4, 3) := by decide +kernel
theorem dCO_isSo_103 : decode mCO_isSo.2.1 103 = .ok (.iconst 0, 1) := by decide +kernel
theorem dCO_isSo_104 : decode mCO_isSo.2.1 104 = .ok (.ireturn, 1) := by decide +kernel
theorem dCO_isSo_105 : decode mCO_isSo.2.1 105 = .ok (.iload_n 2, 1) := by decide +kernel
theorem dCO_isSo_106 : decode mCO_isSo.2.1 106 = .ok (.iload_n 3, 1) := by decide +kernel
theorem dCO_isSo_107 : decode mCO_isSo.2.1 107 = .ok (.isub, 1) := by decide +kernel
theorem dCO_isSo_108 : decode mCO_isSo.2.1 108 = .ok (.iload_n 1, 1) := by decide +kernel
theorem dCO_isSo_109 : decode mCO_isSo.2.1 109 = .ok (.if_icmp .eq 10, 3) := by decide +kernel
theorem dCO_isSo_112 : decode mCO_isSo.2.1 112 = .ok (.iload_n 3, 1) := by decide +kernel
theorem dCO_isSo_113 : decode mCO_isSo.2.1 113 = .ok (.iload_n 2, 1) := by decide +kernel
theorem dCO_isSo_114 : decode mCO_isSo.2.1 114 = .ok (.isub, 1) := by decide +kernel
theorem dCO_isSo_115 : decode mCO_isSo.2.1 115 = .ok (.iload_n 1, 1) := by decide +kernel
theorem dCO_isSo_116 : decode mCO_isSo.2.1 116 = .ok (.if_icmp .ne 7, 3) := by decide +kernel
theorem dCO_isSo_119 : decode mCO_isSo.2.1 119 = .ok (.iconst 1, 1) := by decide +kernel
theorem dCO_isSo_120 : decode mCO_isSo.2.1 120 = .ok (.goto 4, 3) := by decide +kernel
theorem dCO_isSo_123 : decode mCO_isSo.2.1 123 = .ok (.iconst 0, 1) := by decide +kernel
theorem dCO_isSo_124 : decode mCO_isSo.2.1 124 = .ok (.ireturn, 1) := by decide +kernel
theorem dCO_isSo_125 : decode mCO_isSo.2.1 125 = .ok (.iload_n 3, 1) := by decide +kernel
theorem dCO_isSo_126 : decode mCO_isSo.2.1 126 = .ok (.iload_n 2, 1) := by decide +kernel
theorem dCO_isSo_127 : decode mCO_isSo.2.1 127 = .ok (.if_icmp .ge 9, 3) := by decide +kernel
theorem dCO_isSo_130 : decode mCO_isSo.2.1 130 = .ok (.iload_n 2, 1) := by decide +kernel
theorem dCO_isSo_131 : decode mCO_isSo.2.1 131 = .ok (.iload 4, 2) := by decide +kernel
theorem dCO_isSo_133 : decode mCO_isSo.2.1 133 = .ok (.if_icmp .lt 14, 3) := by decide +kernel
theorem dCO_isSo_136 : decode mCO_isSo.2.1 136 = .ok (.iload 4, 2) := by decide +kernel
theorem dCO_isSo_138 : decode mCO_isSo.2.1 138 = .ok (.iload_n 2, 1) := by decide +kernel
theorem dCO_isSo_139 : decode mCO_isSo.2.1 139 = .ok (.if_icmp .ge 12, 3) := by decide +kernel
theorem dCO_isSo_142 : decode mCO_isSo.2.1 142 = .ok (.iload_n 2, 1) := by decide +kernel
theorem dCO_isSo_143 : decode mCO_isSo.2.1 143 = .ok (.iload_n 3, 1) := by decide +kernel
theorem dCO_isSo_144 : decode mCO_isSo.2.1 144 = .ok (.if_icmp .ge 7, 3) := by decide +kernel
theorem dCO_isSo_147 : decode mCO_isSo.2.1 147 = .ok (.iconst 1, 1) := by decide +kernel
theorem dCO_isSo_148 : decode mCO_isSo.2.1 148 = .ok (.goto 4, 3) := by decide +kernel
theorem dCO_isSo_151 : decode mCO_isSo.2.1 151 = .ok (.iconst 0, 1) := by decide +kernel
theorem dCO_isSo_152 : decode mCO_isSo.2.1 152 = .ok (.ireturn, 1) := by decide +kernel
theorem dCO_isSo_153 : decode mCO_isSo.2.1 153 = .ok (.iload_n 2, 1) := by decide +kernel
theorem dCO_isSo_154 : decode mCO_isSo.2.1 154 = .ok (.iload_n 1, 1) := by decide +kernel
theorem dCO_isSo_155 : decode mCO_isSo.2.1 155 = .ok (.if_icmp .ne 7, 3) := by decide +kernel
theorem dCO_isSo_158 : decode mCO_isSo.2.1 158 = .ok (.iconst 1, 1) := by decide +kernel
theorem dCO_isSo_159 : decode mCO_isSo.2.1 159 = .ok (.goto 4, 3) := by decide +kernel
theorem dCO_isSo_162 : decode mCO_isSo.2.1 162 = .ok (.iconst 0, 1) := by decide +kernel
theorem dCO_isSo_163 : decode mCO_isSo.2.1 163 = .ok (.ireturn, 1) := by decide +kernel
theorem dCO_isSo_164 : decode mCO_isSo.2.1 164 = .ok (.iload_n 2, 1) := by decide +kernel
theorem dCO_isSo_165 : decode mCO_isSo.2.1 165 = .ok (.iload_n 3, 1) := by decide +kernel
theorem dCO_isSo_166 : decode mCO_isSo.2.1 166 = .ok (.if_icmp .eq 9, 3) := by decide +kernel
theorem dCO_isSo_169 : decode mCO_isSo.2.1 169 = .ok (.iload_n 2, 1) := by decide +kernel
theorem dCO_isSo_170 : decode mCO_isSo.2.1 170 = .ok (.iload 4, 2) := by decide +kernel
theorem dCO_isSo_172 : decode mCO_isSo.2.1 172 = .ok (.if_icmp .ne 7, 3) := by decide +kernel
theorem dCO_isSo_175 : decode mCO_isSo.2.1 175 = .ok (.iconst 1, 1) := by decide +kernel
theorem dCO_isSo_176 : decode mCO_isSo.2.1 176 = .ok (.goto 4, 3) := by decide +kernel
theorem dCO_isSo_179 : decode mCO_isSo.2.1 179 = .ok (.iconst 0, 1) := by decide +kernel
theorem dCO_isSo_180 : decode mCO_isSo.2.1 180 = .ok (.ireturn, 1) := by decide +kernel
theorem dCO_isSo_181 : decode mCO_isSo.2.1 181 = .ok (.iload_n 2, 1) := by decide +kernel
theorem dCO_isSo_182 : decode mCO_isSo.2.1 182 = .ok (.iload_n 3, 1) := by decide +kernel
theorem dCO_isSo_183 : decode mCO_isSo.2.1 183 = .ok (.if_icmp .ne 7, 3) := by decide +kernel
theorem dCO_isSo_186 : decode mCO_isSo.2.1 186 = .ok (.iconst 1, 1) := by decide +kernel
theorem dCO_isSo_187 : decode mCO_isSo.2.1 187 = .ok (.goto 4, 3) := by decide +kernel
theorem dCO_isSo_190 : decode mCO_isSo.2.1 190 = .ok (.iconst 0, 1) := by decide +kernel
theorem dCO_isSo_191 : decode mCO_isSo.2.1 191 = .ok (.iload_n 2, 1) := by decide +kernel
theorem dCO_isSo_192 : decode mCO_isSo.2.1 192 = .ok (.iload 4, 2) := by decide +kernel
theorem dCO_isSo_194 : decode mCO_isSo.2.1 194 = .ok (.if_icmp .ne 7, 3) := by decide +kernel
theorem dCO_isSo_197 : decode mCO_isSo.2.1 197 = .ok (.iconst 1, 1) := by decide +kernel
theorem dCO_isSo_198 : decode mCO_isSo.2.1 198 = .ok (.goto 4, 3) := by decide +kernel
theorem dCO_isSo_201 : decode mCO_isSo.2.1 201 = .ok (.iconst 0, 1) := by decide +kernel
theorem dCO_isSo_202 : decode mCO_isSo.2.1 202 = .ok (.if_icmp .eq 7, 3) := by decide +kernel
theorem dCO_isSo_205 : decode mCO_isSo.2.1 205 = .ok (.iconst 1, 1) := by decide +kernel
theorem dCO_isSo_206 : decode mCO_isSo.2.1 206 = .ok (.goto 4, 3) := by decide +kernel
theorem dCO_isSo_209 : decode mCO_isSo.2.1 209 = .ok (.iconst 0, 1) := by decide +kernel
theorem dCO_isSo_210 : decode mCO_isSo.2.1 210 = .ok (.ireturn, 1) := by decide +kernel
theorem dCO_isSo_211 : decode mCO_isSo.2.1 211 = .ok (.iload_n 2, 1) := by decide +kernel
theorem dCO_isSo_212 : decode mCO_isSo.2.1 212 = .ok (.iload_n 3, 1) := by decide +kernel
theorem dCO_isSo_213 : decode mCO_isSo.2.1 213 = .ok (.if_icmp .ge 7, 3) := by decide +kernel
theorem dCO_isSo_216 : decode mCO_isSo.2.1 216 = .ok (.iconst 1, 1) := by decide +kernel
theorem dCO_isSo_217 : decode mCO_isSo.2.1 217 = .ok (.goto 4, 3) := by decide +kernel
theorem dCO_isSo_220 : decode mCO_isSo.2.1 220 = .ok (.iconst 0, 1) := by decide +kernel
theorem dCO_isSo_221 : decode mCO_isSo.2.1 221 = .ok (.ireturn, 1) := by decide +kernel
theorem dCO_thingAt_0 : decode mCO_thingAt.2.1 0 = .ok (.bipush 10, 2) := by decide +kernel
theorem dCO_thingAt_2 : decode mCO_thingAt.2.1 2 = .ok (.iload_n 0, 1) := by decide +kernel
theorem dCO_thingAt_3 : decode mCO_thingAt.2.1 3 = .ok (.iload_n 1, 1) := by decide +kernel
theorem dCO_thingAt_4 : decode mCO_thingAt.2.1 4 = .ok (.idiv, 1) := by decide +kernel
theorem dCO_thingAt_5 : decode mCO_thingAt.2.1 5 = .ok (.iconst 1, 1) := by decide +kernel
theorem dCO_thingAt_6 : decode mCO_thingAt.2.1 6 = .ok (.iadd, 1) := by decide +kernel
theorem dCO_thingAt_7 : decode mCO_thingAt.2.1 7 = .ok (.imul, 1) := by decide +kernel
theorem dCO_thingAt_8 : decode mCO_thingAt.2.1 8 = .ok (.iload_n 0, 1) := by decide +kernel
theorem dCO_thingAt_9 : decode mCO_thingAt.2.1 9 = .ok (.iload_n 1, 1) := by decide +kernel
theorem dCO_thingAt_10 : decode mCO_thingAt.2.1 10 = .ok (.irem, 1) := by decide +kernel
theorem dCO_thingAt_11 : decode mCO_thingAt.2.1 11 = .ok (.iadd, 1) := by decide +kernel
theorem dCO_thingAt_12 : decode mCO_thingAt.2.1 12 = .ok (.ireturn, 1) := by decide +kernel
theorem dCO_ruleOf_0 : decode mCO_ruleOf.2.1 0 = .ok (.iload_n 0, 1) := by decide +kernel
theorem dCO_ruleOf_1 : decode mCO_ruleOf.2.1 1 = .ok (.bipush 9, 2) := by decide +kernel
theorem dCO_ruleOf_3 : decode mCO_ruleOf.2.1 3 = .ok (.if_icmp .ne 5, 3) := by decide +kernel
theorem dCO_ruleOf_6 : decode mCO_ruleOf.2.1 6 = .ok (.iconst (-1), 1) := by decide +kernel
theorem dCO_ruleOf_7 : decode mCO_ruleOf.2.1 7 = .ok (.ireturn, 1) := by decide +kernel
theorem dCO_ruleOf_8 : decode mCO_ruleOf.2.1 8 = .ok (.iload_n 0, 1) := by decide +kernel
theorem dCO_ruleOf_9 : decode mCO_ruleOf.2.1 9 = .ok (.invokestatic 9, 3) := by decide +kernel
theorem dCO_ruleOf_12 : decode mCO_ruleOf.2.1 12 = .ok (.iconst 3, 1) := by decide +kernel
theorem dCO_ruleOf_13 : decode mCO_ruleOf.2.1 13 = .ok (.if_icmp .ne 7, 3) := by decide +kernel
theorem dCO_ruleOf_16 : decode mCO_ruleOf.2.1 16 = .ok (.iconst 5, 1) := by decide +kernel
theorem dCO_ruleOf_17 : decode mCO_ruleOf.2.1 17 = .ok (.goto 4, 3) := by decide +kernel
theorem dCO_ruleOf_20 : decode mCO_ruleOf.2.1 20 = .ok (.iconst 3, 1) := by decide +kernel
theorem dCO_ruleOf_21 : decode mCO_ruleOf.2.1 21 = .ok (.ireturn, 1) := by decide +kernel
theorem dCO_thingsOf_0 : decode mCO_thingsOf.2.1 0 = .ok (.iload_n 0, 1) := by decide +kernel
theorem dCO_thingsOf_1 : decode mCO_thingsOf.2.1 1 = .ok (.bipush 6, 2) := by decide +kernel
theorem dCO_thingsOf_3 : decode mCO_thingsOf.2.1 3 = .ok (.if_icmp .ne 5, 3) := by decide +kernel
theorem dCO_thingsOf_6 : decode mCO_thingsOf.2.1 6 = .ok (.iconst 1, 1) := by decide +kernel
theorem dCO_thingsOf_7 : decode mCO_thingsOf.2.1 7 = .ok (.ireturn, 1) := by decide +kernel
theorem dCO_thingsOf_8 : decode mCO_thingsOf.2.1 8 = .ok (.iload_n 0, 1) := by decide +kernel
theorem dCO_thingsOf_9 : decode mCO_thingsOf.2.1 9 = .ok (.iconst 5, 1) := by decide +kernel
theorem dCO_thingsOf_10 : decode mCO_thingsOf.2.1 10 = .ok (.if_icmp .eq 15, 3) := by decide +kernel
theorem dCO_thingsOf_13 : decode mCO_thingsOf.2.1 13 = .ok (.iload_n 0, 1) := by decide +kernel
theorem dCO_thingsOf_14 : decode mCO_thingsOf.2.1 14 = .ok (.bipush 7, 2) := by decide +kernel
theorem dCO_thingsOf_16 : decode mCO_thingsOf.2.1 16 = .ok (.if_icmp .eq 9, 3) := by decide +kernel
theorem dCO_thingsOf_19 : decode mCO_thingsOf.2.1 19 = .ok (.iload_n 0, 1) := by decide +kernel
theorem dCO_thingsOf_20 : decode mCO_thingsOf.2.1 20 = .ok (.bipush 8, 2) := by decide +kernel
theorem dCO_thingsOf_22 : decode mCO_thingsOf.2.1 22 = .ok (.if_icmp .ne 7, 3) := by decide +kernel
theorem dCO_thingsOf_25 : decode mCO_thingsOf.2.1 25 = .ok (.iconst 3, 1) := by decide +kernel
theorem dCO_thingsOf_26 : decode mCO_thingsOf.2.1 26 = .ok (.goto 4, 3) := by decide +kernel
theorem dCO_thingsOf_29 : decode mCO_thingsOf.2.1 29 = .ok (.iconst 2, 1) := by decide +kernel
theorem dCO_thingsOf_30 : decode mCO_thingsOf.2.1 30 = .ok (.ireturn, 1) := by decide +kernel
theorem dCO_thingAfter_0 : decode mCO_thingAfter.2.1 0 = .ok (.bipush 40, 2) := by decide +kernel
theorem dCO_thingAfter_2 : decode mCO_thingAfter.2.1 2 = .ok (.istore_n 2, 1) := by decide +kernel
theorem dCO_thingAfter_3 : decode mCO_thingAfter.2.1 3 = .ok (.iload_n 0, 1) := by decide +kernel
theorem dCO_thingAfter_4 : decode mCO_thingAfter.2.1 4 = .ok (.invokestatic 15, 3) := by decide +kernel
theorem dCO_thingAfter_7 : decode mCO_thingAfter.2.1 7 = .ok (.istore_n 3, 1) := by decide +kernel
theorem dCO_thingAfter_8 : decode mCO_thingAfter.2.1 8 = .ok (.iload_n 0, 1) := by decide +kernel
theorem dCO_thingAfter_9 : decode mCO_thingAfter.2.1 9 = .ok (.invokestatic 18, 3) := by decide +kernel
theorem dCO_thingAfter_12 : decode mCO_thingAfter.2.1 12 = .ok (.istore 4, 2) := by decide +kernel
theorem dCO_thingAfter_14 : decode mCO_thingAfter.2.1 14 = .ok (.iload_n 0, 1) := by decide +kernel
theorem dCO_thingAfter_15 : decode mCO_thingAfter.2.1 15 = .ok (.invokestatic 21, 3) := by decide +kernel
theorem dCO_thingAfter_18 : decode mCO_thingAfter.2.1 18 = .ok (.istore 5, 2) := by decide +kernel
theorem dCO_thingAfter_20 : decode mCO_thingAfter.2.1 20 = .ok (.iload_n 3, 1) := by decide +kernel
theorem dCO_thingAfter_21 : decode mCO_thingAfter.2.1 21 = .ok (.iload_n 1, 1) := by decide +kernel
theorem dCO_thingAfter_22 : decode mCO_thingAfter.2.1 22 = .ok (.if_icmp .le 5, 3) := by decide +kernel
theorem dCO_thingAfter_25 : decode mCO_thingAfter.2.1 25 = .ok (.iload_n 3, 1) := by decide +kernel
theorem dCO_thingAfter_26 : decode mCO_thingAfter.2.1 26 = .ok (.istore_n 2, 1) := by decide +kernel
theorem dCO_thingAfter_27 : decode mCO_thingAfter.2.1 27 = .ok (.iload 4, 2) := by decide +kernel
theorem dCO_thingAfter_29 : decode mCO_thingAfter.2.1 29 = .ok (.iload_n 1, 1) := by decide +kernel
theorem dCO_thingAfter_30 : decode mCO_thingAfter.2.1 30 = .ok (.if_icmp .le 12, 3) := by decide +kernel
theorem dCO_thingAfter_33 : decode mCO_thingAfter.2.1 33 = .ok (.iload 4, 2) := by decide +kernel
theorem dCO_thingAfter_35 : decode mCO_thingAfter.2.1 35 = .ok (.iload_n 2, 1) := by decide +kernel
theorem dCO_thingAfter_36 : decode mCO_thingAfter.2.1 36 = .ok (.if_icmp .ge 6, 3) := by decide +kernel
theorem dCO_thingAfter_39 : decode mCO_thingAfter.2.1 39 = .ok (.iload 4, 2) := by decide +kernel
theorem dCO_thingAfter_41 : decode mCO_thingAfter.2.1 41 = .ok (.istore_n 2, 1) := by decide +kernel
theorem dCO_thingAfter_42 : decode mCO_thingAfter.2.1 42 = .ok (.iload 5, 2) := by decide +kernel
theorem dCO_thingAfter_44 : decode mCO_thingAfter.2.1 44 = .ok (.iload_n 1, 1) := by decide +kernel
theorem dCO_thingAfter_45 : decode mCO_thingAfter.2.1 45 = .ok (.if_icmp .le 12, 3) := by decide +kernel
theorem dCO_thingAfter_48 : decode mCO_thingAfter.2.1 48 = .ok (.iload 5, 2) := by decide +kernel
theorem dCO_thingAfter_50 : decode mCO_thingAfter.2.1 50 = .ok (.iload_n 2, 1) := by decide +kernel
theorem dCO_thingAfter_51 : decode mCO_thingAfter.2.1 51 = .ok (.if_icmp .ge 6, 3) := by decide +kernel
theorem dCO_thingAfter_54 : decode mCO_thingAfter.2.1 54 = .ok (.iload 5, 2) := by decide +kernel
theorem dCO_thingAfter_56 : decode mCO_thingAfter.2.1 56 = .ok (.istore_n 2, 1) := by decide +kernel
theorem dCO_thingAfter_57 : decode mCO_thingAfter.2.1 57 = .ok (.iload_n 2, 1) := by decide +kernel
theorem dCO_thingAfter_58 : decode mCO_thingAfter.2.1 58 = .ok (.bipush 40, 2) := by decide +kernel
theorem dCO_thingAfter_60 : decode mCO_thingAfter.2.1 60 = .ok (.if_icmp .ne 7, 3) := by decide +kernel
theorem dCO_thingAfter_63 : decode mCO_thingAfter.2.1 63 = .ok (.iconst (-1), 1) := by decide +kernel
theorem dCO_thingAfter_64 : decode mCO_thingAfter.2.1 64 = .ok (.goto 4, 3) := by decide +kernel
theorem dCO_thingAfter_67 : decode mCO_thingAfter.2.1 67 = .ok (.iload_n 2, 1) := by decide +kernel
theorem dCO_thingAfter_68 : decode mCO_thingAfter.2.1 68 = .ok (.ireturn, 1) := by decide +kernel
theorem dCO_leastD_0 : decode mCO_leastD.2.1 0 = .ok (.iload_n 0, 1) := by decide +kernel
theorem dCO_leastD_1 : decode mCO_leastD.2.1 1 = .ok (.iconst 4, 1) := by decide +kernel
theorem dCO_leastD_2 : decode mCO_leastD.2.1 2 = .ok (.if_icmp .eq 9, 3) := by decide +kernel
theorem dCO_leastD_5 : decode mCO_leastD.2.1 5 = .ok (.iload_n 0, 1) := by decide +kernel
theorem dCO_leastD_6 : decode mCO_leastD.2.1 6 = .ok (.bipush 9, 2) := by decide +kernel
theorem dCO_leastD_8 : decode mCO_leastD.2.1 8 = .ok (.if_icmp .ne 7, 3) := by decide +kernel
theorem dCO_leastD_11 : decode mCO_leastD.2.1 11 = .ok (.iconst 1, 1) := by decide +kernel
theorem dCO_leastD_12 : decode mCO_leastD.2.1 12 = .ok (.goto 4, 3) := by decide +kernel
theorem dCO_leastD_15 : decode mCO_leastD.2.1 15 = .ok (.iconst 0, 1) := by decide +kernel
theorem dCO_leastD_16 : decode mCO_leastD.2.1 16 = .ok (.ireturn, 1) := by decide +kernel
theorem dCO_greatestD_0 : decode mCO_greatestD.2.1 0 = .ok (.iload_n 0, 1) := by decide +kernel
theorem dCO_greatestD_1 : decode mCO_greatestD.2.1 1 = .ok (.iconst 4, 1) := by decide +kernel
theorem dCO_greatestD_2 : decode mCO_greatestD.2.1 2 = .ok (.if_icmp .eq 9, 3) := by decide +kernel
theorem dCO_greatestD_5 : decode mCO_greatestD.2.1 5 = .ok (.iload_n 0, 1) := by decide +kernel
theorem dCO_greatestD_6 : decode mCO_greatestD.2.1 6 = .ok (.bipush 6, 2) := by decide +kernel
theorem dCO_greatestD_8 : decode mCO_greatestD.2.1 8 = .ok (.if_icmp .ne 7, 3) := by decide +kernel
theorem dCO_greatestD_11 : decode mCO_greatestD.2.1 11 = .ok (.iload_n 1, 1) := by decide +kernel
theorem dCO_greatestD_12 : decode mCO_greatestD.2.1 12 = .ok (.iconst 1, 1) := by decide +kernel
theorem dCO_greatestD_13 : decode mCO_greatestD.2.1 13 = .ok (.isub, 1) := by decide +kernel
theorem dCO_greatestD_14 : decode mCO_greatestD.2.1 14 = .ok (.ireturn, 1) := by decide +kernel
theorem dCO_greatestD_15 : decode mCO_greatestD.2.1 15 = .ok (.iload_n 0, 1) := by decide +kernel
theorem dCO_greatestD_16 : decode mCO_greatestD.2.1 16 = .ok (.bipush 9, 2) := by decide +kernel
theorem dCO_greatestD_18 : decode mCO_greatestD.2.1 18 = .ok (.if_icmp .ne 7, 3) := by decide +kernel
theorem dCO_greatestD_21 : decode mCO_greatestD.2.1 21 = .ok (.iload_n 2, 1) := by decide +kernel
theorem dCO_greatestD_22 : decode mCO_greatestD.2.1 22 = .ok (.goto 4, 3) := by decide +kernel
theorem dCO_greatestD_25 : decode mCO_greatestD.2.1 25 = .ok (.iconst 0, 1) := by decide +kernel
theorem dCO_greatestD_26 : decode mCO_greatestD.2.1 26 = .ok (.ireturn, 1) := by decide +kernel
theorem dCO_of_0 : decode mCO_of.2.1 0 = .ok (.iload_n 0, 1) := by decide +kernel
theorem dCO_of_1 : decode mCO_of.2.1 1 = .ok (.iload_n 1, 1) := by decide +kernel
theorem dCO_of_2 : decode mCO_of.2.1 2 = .ok (.iconst 4, 1) := by decide +kernel
theorem dCO_of_3 : decode mCO_of.2.1 3 = .ok (.ishl, 1) := by decide +kernel
theorem dCO_of_4 : decode mCO_of.2.1 4 = .ok (.ior, 1) := by decide +kernel
theorem dCO_of_5 : decode mCO_of.2.1 5 = .ok (.iload_n 2, 1) := by decide +kernel
theorem dCO_of_6 : decode mCO_of.2.1 6 = .ok (.bipush 10, 2) := by decide +kernel
theorem dCO_of_8 : decode mCO_of.2.1 8 = .ok (.ishl, 1) := by decide +kernel
theorem dCO_of_9 : decode mCO_of.2.1 9 = .ok (.ior, 1) := by decide +kernel
theorem dCO_of_10 : decode mCO_of.2.1 10 = .ok (.iload_n 3, 1) := by decide +kernel
theorem dCO_of_11 : decode mCO_of.2.1 11 = .ok (.bipush 16, 2) := by decide +kernel
theorem dCO_of_13 : decode mCO_of.2.1 13 = .ok (.ishl, 1) := by decide +kernel
theorem dCO_of_14 : decode mCO_of.2.1 14 = .ok (.ior, 1) := by decide +kernel
theorem dCO_of_15 : decode mCO_of.2.1 15 = .ok (.iload 4, 2) := by decide +kernel
theorem dCO_of_17 : decode mCO_of.2.1 17 = .ok (.bipush 22, 2) := by decide +kernel
theorem dCO_of_19 : decode mCO_of.2.1 19 = .ok (.ishl, 1) := by decide +kernel
theorem dCO_of_20 : decode mCO_of.2.1 20 = .ok (.ior, 1) := by decide +kernel
theorem dCO_of_21 : decode mCO_of.2.1 21 = .ok (.iload 5, 2) := by decide +kernel
theorem dCO_of_23 : decode mCO_of.2.1 23 = .ok (.iconst 1, 1) := by decide +kernel
theorem dCO_of_24 : decode mCO_of.2.1 24 = .ok (.iadd, 1) := by decide +kernel
theorem dCO_of_25 : decode mCO_of.2.1 25 = .ok (.bipush 26, 2) := by decide +kernel
theorem dCO_of_27 : decode mCO_of.2.1 27 = .ok (.ishl, 1) := by decide +kernel
theorem dCO_of_28 : decode mCO_of.2.1 28 = .ok (.ior, 1) := by decide +kernel
theorem dCO_of_29 : decode mCO_of.2.1 29 = .ok (.ireturn, 1) := by decide +kernel
