theorem dX4_send_41 : decode cX4_send 41 = .ok (.iload 6, 2) := by decide +kernel
theorem dX4_send_43 : decode cX4_send 43 = .ok (.invokevirtual 129, 3) := by decide +kernel
theorem dX4_send_46 : decode cX4_send 46 = .ok (.ifCond .ne 6, 3) := by decide +kernel
theorem dX4_send_49 : decode cX4_send 49 = .ok (.ldc 110, 2) := by decide +kernel
theorem dX4_send_51 : decode cX4_send 51 = .ok (.ireturn, 1) := by decide +kernel
theorem dX4_send_52 : decode cX4_send 52 = .ok (.aload_n 0, 1) := by decide +kernel
theorem dX4_send_53 : decode cX4_send 53 = .ok (.getfield 35, 3) := by decide +kernel
theorem dX4_send_56 : decode cX4_send 56 = .ok (.iload_n 2, 1) := by decide +kernel
theorem dX4_send_57 : decode cX4_send 57 = .ok (.iaload, 1) := by decide +kernel
theorem dX4_send_58 : decode cX4_send 58 = .ok (.iload_n 1, 1) := by decide +kernel
theorem dX4_send_59 : decode cX4_send 59 = .ok (.if_icmp .ne 31, 3) := by decide +kernel
theorem dX4_send_62 : decode cX4_send 62 = .ok (.iload 5, 2) := by decide +kernel
theorem dX4_send_64 : decode cX4_send 64 = .ok (.aload_n 0, 1) := by decide +kernel
theorem dX4_send_65 : decode cX4_send 65 = .ok (.getfield 20, 3) := by decide +kernel
theorem dX4_send_68 : decode cX4_send 68 = .ok (.iload_n 1, 1) := by decide +kernel
theorem dX4_send_69 : decode cX4_send 69 = .ok (.iaload, 1) := by decide +kernel
theorem dX4_send_70 : decode cX4_send 70 = .ok (.iconst (-1), 1) := by decide +kernel
theorem dX4_send_71 : decode cX4_send 71 = .ok (.ixor, 1) := by decide +kernel
theorem dX4_send_72 : decode cX4_send 72 = .ok (.iand, 1) := by decide +kernel
theorem dX4_send_73 : decode cX4_send 73 = .ok (.ifCond .ne 17, 3) := by decide +kernel
theorem dX4_send_76 : decode cX4_send 76 = .ok (.iload 6, 2) := by decide +kernel
theorem dX4_send_78 : decode cX4_send 78 = .ok (.aload_n 0, 1) := by decide +kernel
theorem dX4_send_79 : decode cX4_send 79 = .ok (.getfield 23, 3) := by decide +kernel
theorem dX4_send_82 : decode cX4_send 82 = .ok (.iload_n 1, 1) := by decide +kernel
theorem dX4_send_83 : decode cX4_send 83 = .ok (.iaload, 1) := by decide +kernel
theorem dX4_send_84 : decode cX4_send 84 = .ok (.iconst (-1), 1) := by decide +kernel
theorem dX4_send_85 : decode cX4_send 85 = .ok (.ixor, 1) := by decide +kernel
theorem dX4_send_86 : decode cX4_send 86 = .ok (.iand, 1) := by decide +kernel
theorem dX4_send_87 : decode cX4_send 87 = .ok (.ifCond .eq 6, 3) := by decide +kernel
theorem dX4_send_90 : decode cX4_send 90 = .ok (.ldc 135, 2) := by decide +kernel
theorem dX4_send_92 : decode cX4_send 92 = .ok (.ireturn, 1) := by decide +kernel
theorem dX4_send_93 : decode cX4_send 93 = .ok (.aload_n 0, 1) := by decide +kernel
theorem dX4_send_94 : decode cX4_send 94 = .ok (.iload_n 3, 1) := by decide +kernel
theorem dX4_send_95 : decode cX4_send 95 = .ok (.invokevirtual 143, 3) := by decide +kernel
theorem dX4_send_98 : decode cX4_send 98 = .ok (.ifCond .eq 43, 3) := by decide +kernel
theorem dX4_send_101 : decode cX4_send 101 = .ok (.aload_n 0, 1) := by decide +kernel
theorem dX4_send_102 : decode cX4_send 102 = .ok (.getfield 44, 3) := by decide +kernel
theorem dX4_send_105 : decode cX4_send 105 = .ok (.iload_n 3, 1) := by decide +kernel
theorem dX4_send_106 : decode cX4_send 106 = .ok (.iaload, 1) := by decide +kernel
theorem dX4_send_107 : decode cX4_send 107 = .ok (.iconst 4, 1) := by decide +kernel
theorem dX4_send_108 : decode cX4_send 108 = .ok (.if_icmp .eq 33, 3) := by decide +kernel
theorem dX4_send_111 : decode cX4_send 111 = .ok (.aload_n 0, 1) := by decide +kernel
theorem dX4_send_112 : decode cX4_send 112 = .ok (.getfield 38, 3) := by decide +kernel
theorem dX4_send_115 : decode cX4_send 115 = .ok (.iload_n 2, 1) := by decide +kernel
theorem dX4_send_116 : decode cX4_send 116 = .ok (.iaload, 1) := by decide +kernel
theorem dX4_send_117 : decode cX4_send 117 = .ok (.aload_n 0, 1) := by decide +kernel
theorem dX4_send_118 : decode cX4_send 118 = .ok (.getfield 41, 3) := by decide +kernel
theorem dX4_send_121 : decode cX4_send 121 = .ok (.iload_n 2, 1) := by decide +kernel
theorem dX4_send_122 : decode cX4_send 122 = .ok (.iaload, 1) := by decide +kernel
theorem dX4_send_123 : decode cX4_send 123 = .ok (.aload_n 0, 1) := by decide +kernel
theorem dX4_send_124 : decode cX4_send 124 = .ok (.getfield 38, 3) := by decide +kernel
theorem dX4_send_127 : decode cX4_send 127 = .ok (.iload_n 3, 1) := by decide +kernel
theorem dX4_send_128 : decode cX4_send 128 = .ok (.iaload, 1) := by decide +kernel
theorem dX4_send_129 : decode cX4_send 129 = .ok (.aload_n 0, 1) := by decide +kernel
theorem dX4_send_130 : decode cX4_send 130 = .ok (.getfield 41, 3) := by decide +kernel
theorem dX4_send_133 : decode cX4_send 133 = .ok (.iload_n 3, 1) := by decide +kernel
theorem dX4_send_134 : decode cX4_send 134 = .ok (.iaload, 1) := by decide +kernel
theorem dX4_send_135 : decode cX4_send 135 = .ok (.invokestatic 148, 3) := by decide +kernel
theorem dX4_send_138 : decode cX4_send 138 = .ok (.ifCond .ne 15, 3) := by decide +kernel
theorem dX4_send_141 : decode cX4_send 141 = .ok (.aload_n 0, 1) := by decide +kernel
theorem dX4_send_142 : decode cX4_send 142 = .ok (.dup, 1) := by decide +kernel
theorem dX4_send_143 : decode cX4_send 143 = .ok (.getfield 152, 3) := by decide +kernel
theorem dX4_send_146 : decode cX4_send 146 = .ok (.iconst 1, 1) := by decide +kernel
theorem dX4_send_147 : decode cX4_send 147 = .ok (.iadd, 1) := by decide +kernel
theorem dX4_send_148 : decode cX4_send 148 = .ok (.putfield 152, 3) := by decide +kernel
theorem dX4_send_151 : decode cX4_send 151 = .ok (.iconst 1, 1) := by decide +kernel
theorem dX4_send_152 : decode cX4_send 152 = .ok (.ireturn, 1) := by decide +kernel
theorem dX4_send_153 : decode cX4_send 153 = .ok (.bipush 12, 2) := by decide +kernel
theorem dX4_send_155 : decode cX4_send 155 = .ok (.iload_n 3, 1) := by decide +kernel
theorem dX4_send_156 : decode cX4_send 156 = .ok (.imul, 1) := by decide +kernel
theorem dX4_send_157 : decode cX4_send 157 = .ok (.iconst 3, 1) := by decide +kernel
theorem dX4_send_158 : decode cX4_send 158 = .ok (.aload_n 0, 1) := by decide +kernel
theorem dX4_send_159 : decode cX4_send 159 = .ok (.getfield 44, 3) := by decide +kernel
theorem dX4_send_162 : decode cX4_send 162 = .ok (.iload_n 3, 1) := by decide +kernel
theorem dX4_send_163 : decode cX4_send 163 = .ok (.iaload, 1) := by decide +kernel
theorem dX4_send_164 : decode cX4_send 164 = .ok (.imul, 1) := by decide +kernel
theorem dX4_send_165 : decode cX4_send 165 = .ok (.iadd, 1) := by decide +kernel
theorem dX4_send_166 : decode cX4_send 166 = .ok (.istore 7, 2) := by decide +kernel
theorem dX4_send_168 : decode cX4_send 168 = .ok (.aload_n 0, 1) := by decide +kernel
theorem dX4_send_169 : decode cX4_send 169 = .ok (.getfield 47, 3) := by decide +kernel
theorem dX4_send_172 : decode cX4_send 172 = .ok (.iload 7, 2) := by decide +kernel
theorem dX4_send_174 : decode cX4_send 174 = .ok (.iload 4, 2) := by decide +kernel
theorem dX4_send_176 : decode cX4_send 176 = .ok (.iastore, 1) := by decide +kernel
theorem dX4_send_177 : decode cX4_send 177 = .ok (.aload_n 0, 1) := by decide +kernel
theorem dX4_send_178 : decode cX4_send 178 = .ok (.getfield 47, 3) := by decide +kernel
theorem dX4_send_181 : decode cX4_send 181 = .ok (.iload 7, 2) := by decide +kernel
theorem dX4_send_183 : decode cX4_send 183 = .ok (.iconst 1, 1) := by decide +kernel
theorem dX4_send_184 : decode cX4_send 184 = .ok (.iadd, 1) := by decide +kernel
theorem dX4_send_185 : decode cX4_send 185 = .ok (.iload 5, 2) := by decide +kernel
theorem dX4_send_187 : decode cX4_send 187 = .ok (.iastore, 1) := by decide +kernel
theorem dX4_send_188 : decode cX4_send 188 = .ok (.aload_n 0, 1) := by decide +kernel
theorem dX4_send_189 : decode cX4_send 189 = .ok (.getfield 47, 3) := by decide +kernel
theorem dX4_send_192 : decode cX4_send 192 = .ok (.iload 7, 2) := by decide +kernel
theorem dX4_send_194 : decode cX4_send 194 = .ok (.iconst 2, 1) := by decide +kernel
theorem dX4_send_195 : decode cX4_send 195 = .ok (.iadd, 1) := by decide +kernel
theorem dX4_send_196 : decode cX4_send 196 = .ok (.iload 6, 2) := by decide +kernel
theorem dX4_send_198 : decode cX4_send 198 = .ok (.iastore, 1) := by decide +kernel
theorem dX4_send_199 : decode cX4_send 199 = .ok (.aload_n 0, 1) := by decide +kernel
theorem dX4_send_200 : decode cX4_send 200 = .ok (.getfield 44, 3) := by decide +kernel
theorem dX4_send_203 : decode cX4_send 203 = .ok (.iload_n 3, 1) := by decide +kernel
theorem dX4_send_204 : decode cX4_send 204 = .ok (.dup2, 1) := by decide +kernel
theorem dX4_send_205 : decode cX4_send 205 = .ok (.iaload, 1) := by decide +kernel
theorem dX4_send_206 : decode cX4_send 206 = .ok (.iconst 1, 1) := by decide +kernel
theorem dX4_send_207 : decode cX4_send 207 = .ok (.iadd, 1) := by decide +kernel
theorem dX4_send_208 : decode cX4_send 208 = .ok (.iastore, 1) := by decide +kernel
theorem dX4_send_209 : decode cX4_send 209 = .ok (.iconst 1, 1) := by decide +kernel
theorem dX4_send_210 : decode cX4_send 210 = .ok (.ireturn, 1) := by decide +kernel
theorem dX4_receive_0 : decode cX4_receive 0 = .ok (.aload_n 0, 1) := by decide +kernel
theorem dX4_receive_1 : decode cX4_receive 1 = .ok (.iload_n 1, 1) := by decide +kernel
theorem dX4_receive_2 : decode cX4_receive 2 = .ok (.invokevirtual 103, 3) := by decide +kernel
theorem dX4_receive_5 : decode cX4_receive 5 = .ok (.ifCond .eq 11, 3) := by decide +kernel
theorem dX4_receive_8 : decode cX4_receive 8 = .ok (.aload_n 0, 1) := by decide +kernel
theorem dX4_receive_9 : decode cX4_receive 9 = .ok (.iload_n 2, 1) := by decide +kernel
theorem dX4_receive_10 : decode cX4_receive 10 = .ok (.invokevirtual 143, 3) := by decide +kernel
theorem dX4_receive_13 : decode cX4_receive 13 = .ok (.ifCond .ne 6, 3) := by decide +kernel
theorem dX4_receive_16 : decode cX4_receive 16 = .ok (.ldc 107, 2) := by decide +kernel
theorem dX4_receive_18 : decode cX4_receive 18 = .ok (.ireturn, 1) := by decide +kernel
theorem dX4_receive_19 : decode cX4_receive 19 = .ok (.aload_n 0, 1) := by decide +kernel
theorem dX4_receive_20 : decode cX4_receive 20 = .ok (.getfield 35, 3) := by decide +kernel
theorem dX4_receive_23 : decode cX4_receive 23 = .ok (.iload_n 2, 1) := by decide +kernel
theorem dX4_receive_24 : decode cX4_receive 24 = .ok (.iaload, 1) := by decide +kernel
theorem dX4_receive_25 : decode cX4_receive 25 = .ok (.iload_n 1, 1) := by decide +kernel
theorem dX4_receive_26 : decode cX4_receive 26 = .ok (.if_icmp .eq 6, 3) := by decide +kernel
theorem dX4_receive_29 : decode cX4_receive 29 = .ok (.ldc 135, 2) := by decide +kernel
theorem dX4_receive_31 : decode cX4_receive 31 = .ok (.ireturn, 1) := by decide +kernel
theorem dX4_receive_32 : decode cX4_receive 32 = .ok (.aload_n 0, 1) := by decide +kernel
theorem dX4_receive_33 : decode cX4_receive 33 = .ok (.getfield 44, 3) := by decide +kernel
theorem dX4_receive_36 : decode cX4_receive 36 = .ok (.iload_n 2, 1) := by decide +kernel
theorem dX4_receive_37 : decode cX4_receive 37 = .ok (.iaload, 1) := by decide +kernel
theorem dX4_receive_38 : decode cX4_receive 38 = .ok (.ifCond .ne 5, 3) := by decide +kernel
theorem dX4_receive_41 : decode cX4_receive 41 = .ok (.iconst 0, 1) := by decide +kernel
theorem dX4_receive_42 : decode cX4_receive 42 = .ok (.ireturn, 1) := by decide +kernel
theorem dX4_receive_43 : decode cX4_receive 43 = .ok (.iconst 0, 1) := by decide +kernel
theorem dX4_receive_44 : decode cX4_receive 44 = .ok (.istore_n 3, 1) := by decide +kernel
theorem dX4_receive_45 : decode cX4_receive 45 = .ok (.iload_n 3, 1) := by decide +kernel
theorem dX4_receive_46 : decode cX4_receive 46 = .ok (.iconst 3, 1) := by decide +kernel
theorem dX4_receive_47 : decode cX4_receive 47 = .ok (.if_icmp .ge 30, 3) := by decide +kernel
theorem dX4_receive_50 : decode cX4_receive 50 = .ok (.aload_n 0, 1) := by decide +kernel
theorem dX4_receive_51 : decode cX4_receive 51 = .ok (.getfield 29, 3) := by decide +kernel
theorem dX4_receive_54 : decode cX4_receive 54 = .ok (.iconst 3, 1) := by decide +kernel
theorem dX4_receive_55 : decode cX4_receive 55 = .ok (.iload_n 1, 1) := by decide +kernel
theorem dX4_receive_56 : decode cX4_receive 56 = .ok (.imul, 1) := by decide +kernel
theorem dX4_receive_57 : decode cX4_receive 57 = .ok (.iload_n 3, 1) := by decide +kernel
theorem dX4_receive_58 : decode cX4_receive 58 = .ok (.iadd, 1) := by decide +kernel
theorem dX4_receive_59 : decode cX4_receive 59 = .ok (.aload_n 0, 1) := by decide +kernel
theorem dX4_receive_60 : decode cX4_receive 60 = .ok (.getfield 47, 3) := by decide +kernel
theorem dX4_receive_63 : decode cX4_receive 63 = .ok (.bipush 12, 2) := by decide +kernel
theorem dX4_receive_65 : decode cX4_receive 65 = .ok (.iload_n 2, 1) := by decide +kernel
theorem dX4_receive_66 : decode cX4_receive 66 = .ok (.imul, 1) := by decide +kernel
theorem dX4_receive_67 : decode cX4_receive 67 = .ok (.iload_n 3, 1) := by decide +kernel
theorem dX4_receive_68 : decode cX4_receive 68 = .ok (.iadd, 1) := by decide +kernel
theorem dX4_receive_69 : decode cX4_receive 69 = .ok (.iaload, 1) := by decide +kernel
theorem dX4_receive_70 : decode cX4_receive 70 = .ok (.iastore, 1) := by decide +kernel
theorem dX4_receive_71 : decode cX4_receive 71 = .ok (.iinc 3 1, 3) := by decide +kernel
theorem dX4_receive_74 : decode cX4_receive 74 = .ok (.goto (-29), 3) := by decide +kernel
theorem dX4_receive_77 : decode cX4_receive 77 = .ok (.aload_n 0, 1) := by decide +kernel
theorem dX4_receive_78 : decode cX4_receive 78 = .ok (.getfield 20, 3) := by decide +kernel
theorem dX4_receive_81 : decode cX4_receive 81 = .ok (.iload_n 1, 1) := by decide +kernel
theorem dX4_receive_82 : decode cX4_receive 82 = .ok (.dup2, 1) := by decide +kernel
theorem dX4_receive_83 : decode cX4_receive 83 = .ok (.iaload, 1) := by decide +kernel
theorem dX4_receive_84 : decode cX4_receive 84 = .ok (.aload_n 0, 1) := by decide +kernel
theorem dX4_receive_85 : decode cX4_receive 85 = .ok (.getfield 29, 3) := by decide +kernel
theorem dX4_receive_88 : decode cX4_receive 88 = .ok (.iconst 3, 1) := by decide +kernel
theorem dX4_receive_89 : decode cX4_receive 89 = .ok (.iload_n 1, 1) := by decide +kernel
theorem dX4_receive_90 : decode cX4_receive 90 = .ok (.imul, 1) := by decide +kernel
theorem dX4_receive_91 : decode cX4_receive 91 = .ok (.iconst 1, 1) := by decide +kernel
theorem dX4_receive_92 : decode cX4_receive 92 = .ok (.iadd, 1) := by decide +kernel
theorem dX4_receive_93 : decode cX4_receive 93 = .ok (.iaload, 1) := by decide +kernel
theorem dX4_receive_94 : decode cX4_receive 94 = .ok (.ior, 1) := by decide +kernel
theorem dX4_receive_95 : decode cX4_receive 95 = .ok (.iastore, 1) := by decide +kernel
theorem dX4_receive_96 : decode cX4_receive 96 = .ok (.aload_n 0, 1) := by decide +kernel
theorem dX4_receive_97 : decode cX4_receive 97 = .ok (.getfield 23, 3) := by decide +kernel
theorem dX4_receive_100 : decode cX4_receive 100 = .ok (.iload_n 1, 1) := by decide +kernel
theorem dX4_receive_101 : decode cX4_receive 101 = .ok (.dup2, 1) := by decide +kernel
theorem dX4_receive_102 : decode cX4_receive 102 = .ok (.iaload, 1) := by decide +kernel
theorem dX4_receive_103 : decode cX4_receive 103 = .ok (.aload_n 0, 1) := by decide +kernel
theorem dX4_receive_104 : decode cX4_receive 104 = .ok (.getfield 29, 3) := by decide +kernel
theorem dX4_receive_107 : decode cX4_receive 107 = .ok (.iconst 3, 1) := by decide +kernel
theorem dX4_receive_108 : decode cX4_receive 108 = .ok (.iload_n 1, 1) := by decide +kernel
theorem dX4_receive_109 : decode cX4_receive 109 = .ok (.imul, 1) := by decide +kernel
theorem dX4_receive_110 : decode cX4_receive 110 = .ok (.iconst 2, 1) := by decide +kernel
theorem dX4_receive_111 : decode cX4_receive 111 = .ok (.iadd, 1) := by decide +kernel
theorem dX4_receive_112 : decode cX4_receive 112 = .ok (.iaload, 1) := by decide +kernel
theorem dX4_receive_113 : decode cX4_receive 113 = .ok (.ior, 1) := by decide +kernel
theorem dX4_receive_114 : decode cX4_receive 114 = .ok (.iastore, 1) := by decide +kernel
theorem dX4_receive_115 : decode cX4_receive 115 = .ok (.aload_n 0, 1) := by decide +kernel
theorem dX4_receive_116 : decode cX4_receive 116 = .ok (.getfield 44, 3) := by decide +kernel
theorem dX4_receive_119 : decode cX4_receive 119 = .ok (.iload_n 2, 1) := by decide +kernel
theorem dX4_receive_120 : decode cX4_receive 120 = .ok (.dup2, 1) := by decide +kernel
theorem dX4_receive_121 : decode cX4_receive 121 = .ok (.iaload, 1) := by decide +kernel
theorem dX4_receive_122 : decode cX4_receive 122 = .ok (.iconst 1, 1) := by decide +kernel
theorem dX4_receive_123 : decode cX4_receive 123 = .ok (.isub, 1) := by decide +kernel
theorem dX4_receive_124 : decode cX4_receive 124 = .ok (.iastore, 1) := by decide +kernel
theorem dX4_receive_125 : decode cX4_receive 125 = .ok (.iconst 0, 1) := by decide +kernel
theorem dX4_receive_126 : decode cX4_receive 126 = .ok (.istore_n 3, 1) := by decide +kernel
theorem dX4_receive_127 : decode cX4_receive 127 = .ok (.iload_n 3, 1) := by decide +kernel
theorem dX4_receive_128 : decode cX4_receive 128 = .ok (.iconst 3, 1) := by decide +kernel
theorem dX4_receive_129 : decode cX4_receive 129 = .ok (.aload_n 0, 1) := by decide +kernel
theorem dX4_receive_130 : decode cX4_receive 130 = .ok (.getfield 44, 3) := by decide +kernel
theorem dX4_receive_133 : decode cX4_receive 133 = .ok (.iload_n 2, 1) := by decide +kernel
theorem dX4_receive_134 : decode cX4_receive 134 = .ok (.iaload, 1) := by decide +kernel
theorem dX4_receive_135 : decode cX4_receive 135 = .ok (.imul, 1) := by decide +kernel
theorem dX4_receive_136 : decode cX4_receive 136 = .ok (.if_icmp .ge 33, 3) := by decide +kernel
theorem dX4_receive_139 : decode cX4_receive 139 = .ok (.aload_n 0, 1) := by decide +kernel
theorem dX4_receive_140 : decode cX4_receive 140 = .ok (.getfield 47, 3) := by decide +kernel
theorem dX4_receive_143 : decode cX4_receive 143 = .ok (.bipush 12, 2) := by decide +kernel
theorem dX4_receive_145 : decode cX4_receive 145 = .ok (.iload_n 2, 1) := by decide +kernel
theorem dX4_receive_146 : decode cX4_receive 146 = .ok (.imul, 1) := by decide +kernel
theorem dX4_receive_147 : decode cX4_receive 147 = .ok (.iload_n 3, 1) := by decide +kernel
theorem dX4_receive_148 : decode cX4_receive 148 = .ok (.iadd, 1) := by decide +kernel
theorem dX4_receive_149 : decode cX4_receive 149 = .ok (.aload_n 0, 1) := by decide +kernel
theorem dX4_receive_150 : decode cX4_receive 150 = .ok (.getfield 47, 3) := by decide +kernel
theorem dX4_receive_153 : decode cX4_receive 153 = .ok (.bipush 12, 2) := by decide +kernel
theorem dX4_receive_155 : decode cX4_receive 155 = .ok (.iload_n 2, 1) := by decide +kernel
theorem dX4_receive_156 : decode cX4_receive 156 = .ok (.imul, 1) := by decide +kernel
theorem dX4_receive_157 : decode cX4_receive 157 = .ok (.iload_n 3, 1) := by decide +kernel
theorem dX4_receive_158 : decode cX4_receive 158 = .ok (.iadd, 1) := by decide +kernel
theorem dX4_receive_159 : decode cX4_receive 159 = .ok (.iconst 3, 1) := by decide +kernel
theorem dX4_receive_160 : decode cX4_receive 160 = .ok (.iadd, 1) := by decide +kernel
theorem dX4_receive_161 : decode cX4_receive 161 = .ok (.iaload, 1) := by decide +kernel
theorem dX4_receive_162 : decode cX4_receive 162 = .ok (.iastore, 1) := by decide +kernel
theorem dX4_receive_163 : decode cX4_receive 163 = .ok (.iinc 3 1, 3) := by decide +kernel
theorem dX4_receive_166 : decode cX4_receive 166 = .ok (.goto (-39), 3) := by decide +kernel
theorem dX4_receive_169 : decode cX4_receive 169 = .ok (.iconst 1, 1) := by decide +kernel
theorem dX4_receive_170 : decode cX4_receive 170 = .ok (.ireturn, 1) := by decide +kernel
theorem dX4_message_0 : decode cX4_message 0 = .ok (.aload_n 0, 1) := by decide +kernel
theorem dX4_message_1 : decode cX4_message 1 = .ok (.iload_n 1, 1) := by decide +kernel
theorem dX4_message_2 : decode cX4_message 2 = .ok (.invokevirtual 103, 3) := by decide +kernel
theorem dX4_message_5 : decode cX4_message 5 = .ok (.ifCond .ne 8, 3) := by decide +kernel
theorem dX4_message_8 : decode cX4_message 8 = .ok (.ldc 107, 2) := by decide +kernel
theorem dX4_message_10 : decode cX4_message 10 = .ok (.goto 30, 3) := by decide +kernel
theorem dX4_message_13 : decode cX4_message 13 = .ok (.iload_n 2, 1) := by decide +kernel
theorem dX4_message_14 : decode cX4_message 14 = .ok (.i2l, 1) := by decide +kernel
theorem dX4_message_15 : decode cX4_message 15 = .ok (.lconst 0, 1) := by decide +kernel
theorem dX4_message_16 : decode cX4_message 16 = .ok (.ldc2_w 108, 3) := by decide +kernel
theorem dX4_message_19 : decode cX4_message 19 = .ok (.invokestatic 93, 3) := by decide +kernel
theorem dX4_message_22 : decode cX4_message 22 = .ok (.ifCond .eq 16, 3) := by decide +kernel
theorem dX4_message_25 : decode cX4_message 25 = .ok (.aload_n 0, 1) := by decide +kernel
theorem dX4_message_26 : decode cX4_message 26 = .ok (.getfield 29, 3) := by decide +kernel
theorem dX4_message_29 : decode cX4_message 29 = .ok (.iconst 3, 1) := by decide +kernel
theorem dX4_message_30 : decode cX4_message 30 = .ok (.iload_n 1, 1) := by decide +kernel
theorem dX4_message_31 : decode cX4_message 31 = .ok (.imul, 1) := by decide +kernel
theorem dX4_message_32 : decode cX4_message 32 = .ok (.iload_n 2, 1) := by decide +kernel
theorem dX4_message_33 : decode cX4_message 33 = .ok (.iadd, 1) := by decide +kernel
theorem dX4_message_34 : decode cX4_message 34 = .ok (.iaload, 1) := by decide +kernel
theorem dX4_message_35 : decode cX4_message 35 = .ok (.goto 5, 3) := by decide +kernel
theorem dX4_message_38 : decode cX4_message 38 = .ok (.ldc 110, 2) := by decide +kernel
theorem dX4_message_40 : decode cX4_message 40 = .ok (.ireturn, 1) := by decide +kernel
theorem dX4_canWrite_0 : decode cX4_canWrite 0 = .ok (.aload_n 0, 1) := by decide +kernel
theorem dX4_canWrite_1 : decode cX4_canWrite 1 = .ok (.getfield 13, 3) := by decide +kernel
theorem dX4_canWrite_4 : decode cX4_canWrite 4 = .ok (.iload_n 1, 1) := by decide +kernel
theorem dX4_canWrite_5 : decode cX4_canWrite 5 = .ok (.iaload, 1) := by decide +kernel
theorem dX4_canWrite_6 : decode cX4_canWrite 6 = .ok (.aload_n 0, 1) := by decide +kernel
theorem dX4_canWrite_7 : decode cX4_canWrite 7 = .ok (.getfield 17, 3) := by decide +kernel
theorem dX4_canWrite_10 : decode cX4_canWrite 10 = .ok (.iload_n 1, 1) := by decide +kernel
theorem dX4_canWrite_11 : decode cX4_canWrite 11 = .ok (.iaload, 1) := by decide +kernel
theorem dX4_canWrite_12 : decode cX4_canWrite 12 = .ok (.aload_n 0, 1) := by decide +kernel
theorem dX4_canWrite_13 : decode cX4_canWrite 13 = .ok (.getfield 56, 3) := by decide +kernel
theorem dX4_canWrite_16 : decode cX4_canWrite 16 = .ok (.iload_n 2, 1) := by decide +kernel
theorem dX4_canWrite_17 : decode cX4_canWrite 17 = .ok (.iaload, 1) := by decide +kernel
theorem dX4_canWrite_18 : decode cX4_canWrite 18 = .ok (.aload_n 0, 1) := by decide +kernel
theorem dX4_canWrite_19 : decode cX4_canWrite 19 = .ok (.getfield 59, 3) := by decide +kernel
theorem dX4_canWrite_22 : decode cX4_canWrite 22 = .ok (.iload_n 2, 1) := by decide +kernel
theorem dX4_canWrite_23 : decode cX4_canWrite 23 = .ok (.iaload, 1) := by decide +kernel
theorem dX4_canWrite_24 : decode cX4_canWrite 24 = .ok (.invokestatic 148, 3) := by decide +kernel
theorem dX4_canWrite_27 : decode cX4_canWrite 27 = .ok (.ireturn, 1) := by decide +kernel
theorem dX4_canRead_0 : decode cX4_canRead 0 = .ok (.aload_n 0, 1) := by decide +kernel
theorem dX4_canRead_1 : decode cX4_canRead 1 = .ok (.getfield 56, 3) := by decide +kernel
theorem dX4_canRead_4 : decode cX4_canRead 4 = .ok (.iload_n 2, 1) := by decide +kernel
theorem dX4_canRead_5 : decode cX4_canRead 5 = .ok (.iaload, 1) := by decide +kernel
theorem dX4_canRead_6 : decode cX4_canRead 6 = .ok (.aload_n 0, 1) := by decide +kernel
theorem dX4_canRead_7 : decode cX4_canRead 7 = .ok (.getfield 59, 3) := by decide +kernel
theorem dX4_canRead_10 : decode cX4_canRead 10 = .ok (.iload_n 2, 1) := by decide +kernel
theorem dX4_canRead_11 : decode cX4_canRead 11 = .ok (.iaload, 1) := by decide +kernel
theorem dX4_canRead_12 : decode cX4_canRead 12 = .ok (.aload_n 0, 1) := by decide +kernel
theorem dX4_canRead_13 : decode cX4_canRead 13 = .ok (.getfield 13, 3) := by decide +kernel
theorem dX4_canRead_16 : decode cX4_canRead 16 = .ok (.iload_n 1, 1) := by decide +kernel
theorem dX4_canRead_17 : decode cX4_canRead 17 = .ok (.iaload, 1) := by decide +kernel
theorem dX4_canRead_18 : decode cX4_canRead 18 = .ok (.aload_n 0, 1) := by decide +kernel
theorem dX4_canRead_19 : decode cX4_canRead 19 = .ok (.getfield 17, 3) := by decide +kernel
theorem dX4_canRead_22 : decode cX4_canRead 22 = .ok (.iload_n 1, 1) := by decide +kernel
theorem dX4_canRead_23 : decode cX4_canRead 23 = .ok (.iaload, 1) := by decide +kernel
theorem dX4_canRead_24 : decode cX4_canRead 24 = .ok (.invokestatic 148, 3) := by decide +kernel
theorem dX4_canRead_27 : decode cX4_canRead 27 = .ok (.ireturn, 1) := by decide +kernel
theorem dX4_blocksOf_0 : decode cX4_blocksOf 0 = .ok (.iload_n 0, 1) := by decide +kernel
theorem dX4_blocksOf_1 : decode cX4_blocksOf 1 = .ok (.iconst 3, 1) := by decide +kernel
theorem dX4_blocksOf_2 : decode cX4_blocksOf 2 = .ok (.iadd, 1) := by decide +kernel
theorem dX4_blocksOf_3 : decode cX4_blocksOf 3 = .ok (.iconst 4, 1) := by decide +kernel
theorem dX4_blocksOf_4 : decode cX4_blocksOf 4 = .ok (.idiv, 1) := by decide +kernel
theorem dX4_blocksOf_5 : decode cX4_blocksOf 5 = .ok (.ireturn, 1) := by decide +kernel
theorem dX4_blocksLeft_0 : decode cX4_blocksLeft 0 = .ok (.aload_n 0, 1) := by decide +kernel
theorem dX4_blocksLeft_1 : decode cX4_blocksLeft 1 = .ok (.getfield 65, 3) := by decide +kernel
theorem dX4_blocksLeft_4 : decode cX4_blocksLeft 4 = .ok (.iload_n 1, 1) := by decide +kernel
theorem dX4_blocksLeft_5 : decode cX4_blocksLeft 5 = .ok (.iaload, 1) := by decide +kernel
theorem dX4_blocksLeft_6 : decode cX4_blocksLeft 6 = .ok (.istore_n 2, 1) := by decide +kernel
theorem dX4_blocksLeft_7 : decode cX4_blocksLeft 7 = .ok (.iconst 0, 1) := by decide +kernel
theorem dX4_blocksLeft_8 : decode cX4_blocksLeft 8 = .ok (.istore_n 3, 1) := by decide +kernel
theorem dX4_blocksLeft_9 : decode cX4_blocksLeft 9 = .ok (.iload_n 3, 1) := by decide +kernel
theorem dX4_blocksLeft_10 : decode cX4_blocksLeft 10 = .ok (.aload_n 0, 1) := by decide +kernel
theorem dX4_blocksLeft_11 : decode cX4_blocksLeft 11 = .ok (.getfield 90, 3) := by decide +kernel
theorem dX4_blocksLeft_14 : decode cX4_blocksLeft 14 = .ok (.if_icmp .ge 62, 3) := by decide +kernel
theorem dX4_blocksLeft_17 : decode cX4_blocksLeft 17 = .ok (.iload_n 2, 1) := by decide +kernel
theorem dX4_blocksLeft_18 : decode cX4_blocksLeft 18 = .ok (.aload_n 0, 1) := by decide +kernel
theorem dX4_blocksLeft_19 : decode cX4_blocksLeft 19 = .ok (.getfield 50, 3) := by decide +kernel
theorem dX4_blocksLeft_22 : decode cX4_blocksLeft 22 = .ok (.iload_n 3, 1) := by decide +kernel
theorem dX4_blocksLeft_23 : decode cX4_blocksLeft 23 = .ok (.baload, 1) := by decide +kernel
theorem dX4_blocksLeft_24 : decode cX4_blocksLeft 24 = .ok (.ifCond .eq 43, 3) := by decide +kernel
theorem dX4_blocksLeft_27 : decode cX4_blocksLeft 27 = .ok (.aload_n 0, 1) := by decide +kernel
theorem dX4_blocksLeft_28 : decode cX4_blocksLeft 28 = .ok (.getfield 62, 3) := by decide +kernel
theorem dX4_blocksLeft_31 : decode cX4_blocksLeft 31 = .ok (.iload_n 3, 1) := by decide +kernel
theorem dX4_blocksLeft_32 : decode cX4_blocksLeft 32 = .ok (.iaload, 1) := by decide +kernel
theorem dX4_blocksLeft_33 : decode cX4_blocksLeft 33 = .ok (.iload_n 1, 1) := by decide +kernel
theorem dX4_blocksLeft_34 : decode cX4_blocksLeft 34 = .ok (.if_icmp .ne 33, 3) := by decide +kernel
theorem dX4_blocksLeft_37 : decode cX4_blocksLeft 37 = .ok (.aload_n 0, 1) := by decide +kernel
theorem dX4_blocksLeft_38 : decode cX4_blocksLeft 38 = .ok (.getfield 53, 3) := by decide +kernel
theorem dX4_blocksLeft_41 : decode cX4_blocksLeft 41 = .ok (.iload_n 3, 1) := by decide +kernel
theorem dX4_blocksLeft_42 : decode cX4_blocksLeft 42 = .ok (.baload, 1) := by decide +kernel
theorem dX4_blocksLeft_43 : decode cX4_blocksLeft 43 = .ok (.ifCond .eq 12, 3) := by decide +kernel
theorem dX4_blocksLeft_46 : decode cX4_blocksLeft 46 = .ok (.aload_n 0, 1) := by decide +kernel
theorem dX4_blocksLeft_47 : decode cX4_blocksLeft 47 = .ok (.getfield 65, 3) := by decide +kernel
theorem dX4_blocksLeft_50 : decode cX4_blocksLeft 50 = .ok (.iload_n 3, 1) := by decide +kernel
theorem dX4_blocksLeft_51 : decode cX4_blocksLeft 51 = .ok (.iaload, 1) := by decide +kernel
theorem dX4_blocksLeft_52 : decode cX4_blocksLeft 52 = .ok (.goto 16, 3) := by decide +kernel
theorem dX4_blocksLeft_55 : decode cX4_blocksLeft 55 = .ok (.aload_n 0, 1) := by decide +kernel
theorem dX4_blocksLeft_56 : decode cX4_blocksLeft 56 = .ok (.getfield 71, 3) := by decide +kernel
theorem dX4_blocksLeft_59 : decode cX4_blocksLeft 59 = .ok (.iload_n 3, 1) := by decide +kernel
theorem dX4_blocksLeft_60 : decode cX4_blocksLeft 60 = .ok (.iaload, 1) := by decide +kernel
theorem dX4_blocksLeft_61 : decode cX4_blocksLeft 61 = .ok (.invokestatic 155, 3) := by decide +kernel
theorem dX4_blocksLeft_64 : decode cX4_blocksLeft 64 = .ok (.goto 4, 3) := by decide +kernel
theorem dX4_blocksLeft_67 : decode cX4_blocksLeft 67 = .ok (.iconst 0, 1) := by decide +kernel
theorem dX4_blocksLeft_68 : decode cX4_blocksLeft 68 = .ok (.isub, 1) := by decide +kernel
theorem dX4_blocksLeft_69 : decode cX4_blocksLeft 69 = .ok (.istore_n 2, 1) := by decide +kernel
theorem dX4_blocksLeft_70 : decode cX4_blocksLeft 70 = .ok (.iinc 3 1, 3) := by decide +kernel
theorem dX4_blocksLeft_73 : decode cX4_blocksLeft 73 = .ok (.goto (-64), 3) := by decide +kernel
theorem dX4_blocksLeft_76 : decode cX4_blocksLeft 76 = .ok (.iload_n 2, 1) := by decide +kernel
theorem dX4_blocksLeft_77 : decode cX4_blocksLeft 77 = .ok (.ireturn, 1) := by decide +kernel
theorem dX4_objectsLeft_0 : decode cX4_objectsLeft 0 = .ok (.aload_n 0, 1) := by decide +kernel
theorem dX4_objectsLeft_1 : decode cX4_objectsLeft 1 = .ok (.getfield 68, 3) := by decide +kernel
theorem dX4_objectsLeft_4 : decode cX4_objectsLeft 4 = .ok (.iload_n 1, 1) := by decide +kernel
theorem dX4_objectsLeft_5 : decode cX4_objectsLeft 5 = .ok (.iaload, 1) := by decide +kernel
theorem dX4_objectsLeft_6 : decode cX4_objectsLeft 6 = .ok (.istore_n 2, 1) := by decide +kernel
theorem dX4_objectsLeft_7 : decode cX4_objectsLeft 7 = .ok (.iconst 0, 1) := by decide +kernel
theorem dX4_objectsLeft_8 : decode cX4_objectsLeft 8 = .ok (.istore_n 3, 1) := by decide +kernel
theorem dX4_objectsLeft_9 : decode cX4_objectsLeft 9 = .ok (.iload_n 3, 1) := by decide +kernel
theorem dX4_objectsLeft_10 : decode cX4_objectsLeft 10 = .ok (.aload_n 0, 1) := by decide +kernel
theorem dX4_objectsLeft_11 : decode cX4_objectsLeft 11 = .ok (.getfield 90, 3) := by decide +kernel
theorem dX4_objectsLeft_14 : decode cX4_objectsLeft 14 = .ok (.if_icmp .ge 56, 3) := by decide +kernel
theorem dX4_objectsLeft_17 : decode cX4_objectsLeft 17 = .ok (.iload_n 2, 1) := by decide +kernel
theorem dX4_objectsLeft_18 : decode cX4_objectsLeft 18 = .ok (.aload_n 0, 1) := by decide +kernel
theorem dX4_objectsLeft_19 : decode cX4_objectsLeft 19 = .ok (.getfield 50, 3) := by decide +kernel
theorem dX4_objectsLeft_22 : decode cX4_objectsLeft 22 = .ok (.iload_n 3, 1) := by decide +kernel
theorem dX4_objectsLeft_23 : decode cX4_objectsLeft 23 = .ok (.baload, 1) := by decide +kernel
theorem dX4_objectsLeft_24 : decode cX4_objectsLeft 24 = .ok (.ifCond .eq 37, 3) := by decide +kernel
theorem dX4_objectsLeft_27 : decode cX4_objectsLeft 27 = .ok (.aload_n 0, 1) := by decide +kernel
theorem dX4_objectsLeft_28 : decode cX4_objectsLeft 28 = .ok (.getfield 62, 3) := by decide +kernel
theorem dX4_objectsLeft_31 : decode cX4_objectsLeft 31 = .ok (.iload_n 3, 1) := by decide +kernel
theorem dX4_objectsLeft_32 : decode cX4_objectsLeft 32 = .ok (.iaload, 1) := by decide +kernel
theorem dX4_objectsLeft_33 : decode cX4_objectsLeft 33 = .ok (.iload_n 1, 1) := by decide +kernel
theorem dX4_objectsLeft_34 : decode cX4_objectsLeft 34 = .ok (.if_icmp .ne 27, 3) := by decide +kernel
theorem dX4_objectsLeft_37 : decode cX4_objectsLeft 37 = .ok (.aload_n 0, 1) := by decide +kernel
theorem dX4_objectsLeft_38 : decode cX4_objectsLeft 38 = .ok (.getfield 53, 3) := by decide +kernel
theorem dX4_objectsLeft_41 : decode cX4_objectsLeft 41 = .ok (.iload_n 3, 1) := by decide +kernel
theorem dX4_objectsLeft_42 : decode cX4_objectsLeft 42 = .ok (.baload, 1) := by decide +kernel
theorem dX4_objectsLeft_43 : decode cX4_objectsLeft 43 = .ok (.ifCond .eq 14, 3) := by decide +kernel
theorem dX4_objectsLeft_46 : decode cX4_objectsLeft 46 = .ok (.iconst 1, 1) := by decide +kernel
theorem dX4_objectsLeft_47 : decode cX4_objectsLeft 47 = .ok (.aload_n 0, 1) := by decide +kernel
theorem dX4_objectsLeft_48 : decode cX4_objectsLeft 48 = .ok (.getfield 68, 3) := by decide +kernel
theorem dX4_objectsLeft_51 : decode cX4_objectsLeft 51 = .ok (.iload_n 3, 1) := by decide +kernel
theorem dX4_objectsLeft_52 : decode cX4_objectsLeft 52 = .ok (.iaload, 1) := by decide +kernel
theorem dX4_objectsLeft_53 : decode cX4_objectsLeft 53 = .ok (.iadd, 1) := by decide +kernel
theorem dX4_objectsLeft_54 : decode cX4_objectsLeft 54 = .ok (.goto 8, 3) := by decide +kernel
theorem dX4_objectsLeft_57 : decode cX4_objectsLeft 57 = .ok (.iconst 1, 1) := by decide +kernel
theorem dX4_objectsLeft_58 : decode cX4_objectsLeft 58 = .ok (.goto 4, 3) := by decide +kernel
theorem dX4_objectsLeft_61 : decode cX4_objectsLeft 61 = .ok (.iconst 0, 1) := by decide +kernel
theorem dX4_objectsLeft_62 : decode cX4_objectsLeft 62 = .ok (.isub, 1) := by decide +kernel
theorem dX4_objectsLeft_63 : decode cX4_objectsLeft 63 = .ok (.istore_n 2, 1) := by decide +kernel
theorem dX4_objectsLeft_64 : decode cX4_objectsLeft 64 = .ok (.iinc 3 1, 3) := by decide +kernel
theorem dX4_objectsLeft_67 : decode cX4_objectsLeft 67 = .ok (.goto (-58), 3) := by decide +kernel
theorem dX4_objectsLeft_70 : decode cX4_objectsLeft 70 = .ok (.iload_n 2, 1) := by decide +kernel
theorem dX4_objectsLeft_71 : decode cX4_objectsLeft 71 = .ok (.ireturn, 1) := by decide +kernel
theorem dX4_goes_0 : decode cX4_goes 0 = .ok (.aload_n 0, 1) := by decide +kernel
theorem dX4_goes_1 : decode cX4_goes 1 = .ok (.getfield 77, 3) := by decide +kernel
theorem dX4_goes_4 : decode cX4_goes 4 = .ok (.ifCond .lt 11, 3) := by decide +kernel
theorem dX4_goes_7 : decode cX4_goes 7 = .ok (.iload_n 1, 1) := by decide +kernel
theorem dX4_goes_8 : decode cX4_goes 8 = .ok (.aload_n 0, 1) := by decide +kernel
theorem dX4_goes_9 : decode cX4_goes 9 = .ok (.getfield 77, 3) := by decide +kernel
theorem dX4_goes_12 : decode cX4_goes 12 = .ok (.if_icmp .gt 7, 3) := by decide +kernel
theorem dX4_goes_15 : decode cX4_goes 15 = .ok (.iconst 1, 1) := by decide +kernel
theorem dX4_goes_16 : decode cX4_goes 16 = .ok (.goto 4, 3) := by decide +kernel
theorem dX4_goes_19 : decode cX4_goes 19 = .ok (.iconst 0, 1) := by decide +kernel
theorem dX4_goes_20 : decode cX4_goes 20 = .ok (.istore_n 2, 1) := by decide +kernel
theorem dX4_goes_21 : decode cX4_goes 21 = .ok (.aload_n 0, 1) := by decide +kernel
theorem dX4_goes_22 : decode cX4_goes 22 = .ok (.dup, 1) := by decide +kernel
theorem dX4_goes_23 : decode cX4_goes 23 = .ok (.getfield 158, 3) := by decide +kernel
theorem dX4_goes_26 : decode cX4_goes 26 = .ok (.iload_n 2, 1) := by decide +kernel
theorem dX4_goes_27 : decode cX4_goes 27 = .ok (.ifCond .eq 7, 3) := by decide +kernel
theorem dX4_goes_30 : decode cX4_goes 30 = .ok (.iload_n 1, 1) := by decide +kernel
theorem dX4_goes_31 : decode cX4_goes 31 = .ok (.goto 4, 3) := by decide +kernel
theorem dX4_goes_34 : decode cX4_goes 34 = .ok (.iconst 0, 1) := by decide +kernel
theorem dX4_goes_35 : decode cX4_goes 35 = .ok (.iadd, 1) := by decide +kernel
theorem dX4_goes_36 : decode cX4_goes 36 = .ok (.putfield 158, 3) := by decide +kernel
theorem dX4_goes_39 : decode cX4_goes 39 = .ok (.iload_n 2, 1) := by decide +kernel
theorem dX4_goes_40 : decode cX4_goes 40 = .ok (.ireturn, 1) := by decide +kernel
theorem dX4_answer_0 : decode cX4_answer 0 = .ok (.aload_n 0, 1) := by decide +kernel
theorem dX4_answer_1 : decode cX4_answer 1 = .ok (.getfield 77, 3) := by decide +kernel
theorem dX4_answer_4 : decode cX4_answer 4 = .ok (.ifCond .ge 5, 3) := by decide +kernel
theorem dX4_answer_7 : decode cX4_answer 7 = .ok (.iload_n 1, 1) := by decide +kernel
theorem dX4_answer_8 : decode cX4_answer 8 = .ok (.ireturn, 1) := by decide +kernel
theorem dX4_answer_9 : decode cX4_answer 9 = .ok (.aload_n 0, 1) := by decide +kernel
theorem dX4_answer_10 : decode cX4_answer 10 = .ok (.iconst (-1), 1) := by decide +kernel
theorem dX4_answer_11 : decode cX4_answer 11 = .ok (.putfield 77, 3) := by decide +kernel
theorem dX4_answer_14 : decode cX4_answer 14 = .ok (.aload_n 0, 1) := by decide +kernel
theorem dX4_answer_15 : decode cX4_answer 15 = .ok (.dup, 1) := by decide +kernel
theorem dX4_answer_16 : decode cX4_answer 16 = .ok (.getfield 161, 3) := by decide +kernel
theorem dX4_answer_19 : decode cX4_answer 19 = .ok (.iconst 1, 1) := by decide +kernel
theorem dX4_answer_20 : decode cX4_answer 20 = .ok (.iadd, 1) := by decide +kernel
theorem dX4_answer_21 : decode cX4_answer 21 = .ok (.putfield 161, 3) := by decide +kernel
theorem dX4_answer_24 : decode cX4_answer 24 = .ok (.aload_n 0, 1) := by decide +kernel
theorem dX4_answer_25 : decode cX4_answer 25 = .ok (.invokevirtual 87, 3) := by decide +kernel
theorem dX4_answer_28 : decode cX4_answer 28 = .ok (.ldc 164, 2) := by decide +kernel
theorem dX4_answer_30 : decode cX4_answer 30 = .ok (.ireturn, 1) := by decide +kernel
theorem dX4_mayMake_0 : decode cX4_mayMake 0 = .ok (.aload_n 0, 1) := by decide +kernel
theorem dX4_mayMake_1 : decode cX4_mayMake 1 = .ok (.iload_n 1, 1) := by decide +kernel
theorem dX4_mayMake_2 : decode cX4_mayMake 2 = .ok (.iload_n 2, 1) := by decide +kernel
theorem dX4_mayMake_3 : decode cX4_mayMake 3 = .ok (.invokevirtual 165, 3) := by decide +kernel
theorem dX4_mayMake_6 : decode cX4_mayMake 6 = .ok (.ifCond .eq 58, 3) := by decide +kernel
theorem dX4_mayMake_9 : decode cX4_mayMake 9 = .ok (.aload_n 0, 1) := by decide +kernel
theorem dX4_mayMake_10 : decode cX4_mayMake 10 = .ok (.iload_n 1, 1) := by decide +kernel
theorem dX4_mayMake_11 : decode cX4_mayMake 11 = .ok (.iload_n 2, 1) := by decide +kernel
theorem dX4_mayMake_12 : decode cX4_mayMake 12 = .ok (.invokevirtual 169, 3) := by decide +kernel
theorem dX4_mayMake_15 : decode cX4_mayMake 15 = .ok (.ifCond .eq 49, 3) := by decide +kernel
theorem dX4_mayMake_18 : decode cX4_mayMake 18 = .ok (.aload_n 0, 1) := by decide +kernel
theorem dX4_mayMake_19 : decode cX4_mayMake 19 = .ok (.getfield 56, 3) := by decide +kernel
theorem dX4_mayMake_22 : decode cX4_mayMake 22 = .ok (.iload_n 2, 1) := by decide +kernel
theorem dX4_mayMake_23 : decode cX4_mayMake 23 = .ok (.iaload, 1) := by decide +kernel
theorem dX4_mayMake_24 : decode cX4_mayMake 24 = .ok (.aload_n 0, 1) := by decide +kernel
theorem dX4_mayMake_25 : decode cX4_mayMake 25 = .ok (.getfield 59, 3) := by decide +kernel
theorem dX4_mayMake_28 : decode cX4_mayMake 28 = .ok (.iload_n 2, 1) := by decide +kernel
theorem dX4_mayMake_29 : decode cX4_mayMake 29 = .ok (.iaload, 1) := by decide +kernel
theorem dX4_mayMake_30 : decode cX4_mayMake 30 = .ok (.iload_n 3, 1) := by decide +kernel
theorem dX4_mayMake_31 : decode cX4_mayMake 31 = .ok (.iload 4, 2) := by decide +kernel
theorem dX4_mayMake_33 : decode cX4_mayMake 33 = .ok (.invokestatic 148, 3) := by decide +kernel
theorem dX4_mayMake_36 : decode cX4_mayMake 36 = .ok (.ifCond .eq 28, 3) := by decide +kernel
theorem dX4_mayMake_39 : decode cX4_mayMake 39 = .ok (.aload_n 0, 1) := by decide +kernel
theorem dX4_mayMake_40 : decode cX4_mayMake 40 = .ok (.getfield 13, 3) := by decide +kernel
theorem dX4_mayMake_43 : decode cX4_mayMake 43 = .ok (.iload_n 1, 1) := by decide +kernel
theorem dX4_mayMake_44 : decode cX4_mayMake 44 = .ok (.iaload, 1) := by decide +kernel
theorem dX4_mayMake_45 : decode cX4_mayMake 45 = .ok (.aload_n 0, 1) := by decide +kernel
theorem dX4_mayMake_46 : decode cX4_mayMake 46 = .ok (.getfield 17, 3) := by decide +kernel
theorem dX4_mayMake_49 : decode cX4_mayMake 49 = .ok (.iload_n 1, 1) := by decide +kernel
theorem dX4_mayMake_50 : decode cX4_mayMake 50 = .ok (.iaload, 1) := by decide +kernel
theorem dX4_mayMake_51 : decode cX4_mayMake 51 = .ok (.iload_n 3, 1) := by decide +kernel
theorem dX4_mayMake_52 : decode cX4_mayMake 52 = .ok (.iload 4, 2) := by decide +kernel
theorem dX4_mayMake_54 : decode cX4_mayMake 54 = .ok (.invokestatic 148, 3) := by decide +kernel
theorem dX4_mayMake_57 : decode cX4_mayMake 57 = .ok (.ifCond .eq 7, 3) := by decide +kernel
theorem dX4_mayMake_60 : decode cX4_mayMake 60 = .ok (.iconst 1, 1) := by decide +kernel
theorem dX4_mayMake_61 : decode cX4_mayMake 61 = .ok (.goto 4, 3) := by decide +kernel
theorem dX4_mayMake_64 : decode cX4_mayMake 64 = .ok (.iconst 0, 1) := by decide +kernel
theorem dX4_mayMake_65 : decode cX4_mayMake 65 = .ok (.ireturn, 1) := by decide +kernel
theorem dX4_isRoomy_0 : decode cX4_isRoomy 0 = .ok (.aload_n 0, 1) := by decide +kernel
theorem dX4_isRoomy_1 : decode cX4_isRoomy 1 = .ok (.iload_n 1, 1) := by decide +kernel
theorem dX4_isRoomy_2 : decode cX4_isRoomy 2 = .ok (.invokevirtual 172, 3) := by decide +kernel
theorem dX4_isRoomy_5 : decode cX4_isRoomy 5 = .ok (.ifCond .eq 16, 3) := by decide +kernel
theorem dX4_isRoomy_8 : decode cX4_isRoomy 8 = .ok (.aload_n 0, 1) := by decide +kernel
theorem dX4_isRoomy_9 : decode cX4_isRoomy 9 = .ok (.getfield 53, 3) := by decide +kernel
theorem dX4_isRoomy_12 : decode cX4_isRoomy 12 = .ok (.iload_n 1, 1) := by decide +kernel
theorem dX4_isRoomy_13 : decode cX4_isRoomy 13 = .ok (.baload, 1) := by decide +kernel
theorem dX4_isRoomy_14 : decode cX4_isRoomy 14 = .ok (.ifCond .eq 7, 3) := by decide +kernel
theorem dX4_isRoomy_17 : decode cX4_isRoomy 17 = .ok (.iconst 1, 1) := by decide +kernel
theorem dX4_isRoomy_18 : decode cX4_isRoomy 18 = .ok (.goto 4, 3) := by decide +kernel
theorem dX4_isRoomy_21 : decode cX4_isRoomy 21 = .ok (.iconst 0, 1) := by decide +kernel
theorem dX4_isRoomy_22 : decode cX4_isRoomy 22 = .ok (.ireturn, 1) := by decide +kernel
theorem dX4_make_0 : decode cX4_make 0 = .ok (.aload_n 0, 1) := by decide +kernel
theorem dX4_make_1 : decode cX4_make 1 = .ok (.getfield 90, 3) := by decide +kernel
theorem dX4_make_4 : decode cX4_make 4 = .ok (.istore 7, 2) := by decide +kernel
theorem dX4_make_6 : decode cX4_make 6 = .ok (.aload_n 0, 1) := by decide +kernel
theorem dX4_make_7 : decode cX4_make 7 = .ok (.iconst 3, 1) := by decide +kernel
theorem dX4_make_8 : decode cX4_make 8 = .ok (.invokevirtual 175, 3) := by decide +kernel
theorem dX4_make_11 : decode cX4_make 11 = .ok (.ifCond .eq 80, 3) := by decide +kernel
theorem dX4_make_14 : decode cX4_make 14 = .ok (.aload_n 0, 1) := by decide +kernel
theorem dX4_make_15 : decode cX4_make 15 = .ok (.getfield 50, 3) := by decide +kernel
theorem dX4_make_18 : decode cX4_make 18 = .ok (.iload 7, 2) := by decide +kernel
theorem dX4_make_20 : decode cX4_make 20 = .ok (.iconst 1, 1) := by decide +kernel
theorem dX4_make_21 : decode cX4_make 21 = .ok (.bastore, 1) := by decide +kernel
theorem dX4_make_22 : decode cX4_make 22 = .ok (.aload_n 0, 1) := by decide +kernel
theorem dX4_make_23 : decode cX4_make 23 = .ok (.getfield 53, 3) := by decide +kernel
theorem dX4_make_26 : decode cX4_make 26 = .ok (.iload 7, 2) := by decide +kernel
theorem dX4_make_28 : decode cX4_make 28 = .ok (.iload 4, 2) := by decide +kernel
theorem dX4_make_30 : decode cX4_make 30 = .ok (.bastore, 1) := by decide +kernel
theorem dX4_make_31 : decode cX4_make 31 = .ok (.aload_n 0, 1) := by decide +kernel
theorem dX4_make_32 : decode cX4_make 32 = .ok (.getfield 56, 3) := by decide +kernel
theorem dX4_make_35 : decode cX4_make 35 = .ok (.iload 7, 2) := by decide +kernel
theorem dX4_make_37 : decode cX4_make 37 = .ok (.iload_n 2, 1) := by decide +kernel
theorem dX4_make_38 : decode cX4_make 38 = .ok (.iastore, 1) := by decide +kernel
theorem dX4_make_39 : decode cX4_make 39 = .ok (.aload_n 0, 1) := by decide +kernel
theorem dX4_make_40 : decode cX4_make 40 = .ok (.getfield 59, 3) := by decide +kernel
theorem dX4_make_43 : decode cX4_make 43 = .ok (.iload 7, 2) := by decide +kernel
theorem dX4_make_45 : decode cX4_make 45 = .ok (.iload_n 3, 1) := by decide +kernel
theorem dX4_make_46 : decode cX4_make 46 = .ok (.iastore, 1) := by decide +kernel
theorem dX4_make_47 : decode cX4_make 47 = .ok (.aload_n 0, 1) := by decide +kernel
theorem dX4_make_48 : decode cX4_make 48 = .ok (.getfield 62, 3) := by decide +kernel
theorem dX4_make_51 : decode cX4_make 51 = .ok (.iload 7, 2) := by decide +kernel
theorem dX4_make_53 : decode cX4_make 53 = .ok (.iload_n 1, 1) := by decide +kernel
theorem dX4_make_54 : decode cX4_make 54 = .ok (.iastore, 1) := by decide +kernel
theorem dX4_make_55 : decode cX4_make 55 = .ok (.aload_n 0, 1) := by decide +kernel
theorem dX4_make_56 : decode cX4_make 56 = .ok (.getfield 65, 3) := by decide +kernel
theorem dX4_make_59 : decode cX4_make 59 = .ok (.iload 7, 2) := by decide +kernel
theorem dX4_make_61 : decode cX4_make 61 = .ok (.iload 5, 2) := by decide +kernel
theorem dX4_make_63 : decode cX4_make 63 = .ok (.iastore, 1) := by decide +kernel
theorem dX4_make_64 : decode cX4_make 64 = .ok (.aload_n 0, 1) := by decide +kernel
theorem dX4_make_65 : decode cX4_make 65 = .ok (.getfield 68, 3) := by decide +kernel
theorem dX4_make_68 : decode cX4_make 68 = .ok (.iload 7, 2) := by decide +kernel
theorem dX4_make_70 : decode cX4_make 70 = .ok (.iload 6, 2) := by decide +kernel
theorem dX4_make_72 : decode cX4_make 72 = .ok (.iastore, 1) := by decide +kernel
theorem dX4_make_73 : decode cX4_make 73 = .ok (.aload_n 0, 1) := by decide +kernel
theorem dX4_make_74 : decode cX4_make 74 = .ok (.getfield 71, 3) := by decide +kernel
theorem dX4_make_77 : decode cX4_make 77 = .ok (.iload 7, 2) := by decide +kernel
theorem dX4_make_79 : decode cX4_make 79 = .ok (.iconst 0, 1) := by decide +kernel
theorem dX4_make_80 : decode cX4_make 80 = .ok (.iastore, 1) := by decide +kernel
theorem dX4_make_81 : decode cX4_make 81 = .ok (.aload_n 0, 1) := by decide +kernel
theorem dX4_make_82 : decode cX4_make 82 = .ok (.dup, 1) := by decide +kernel
theorem dX4_make_83 : decode cX4_make 83 = .ok (.getfield 90, 3) := by decide +kernel
theorem dX4_make_86 : decode cX4_make 86 = .ok (.iconst 1, 1) := by decide +kernel
theorem dX4_make_87 : decode cX4_make 87 = .ok (.iadd, 1) := by decide +kernel
theorem dX4_make_88 : decode cX4_make 88 = .ok (.putfield 90, 3) := by decide +kernel
theorem dX4_make_91 : decode cX4_make 91 = .ok (.aload_n 0, 1) := by decide +kernel
theorem dX4_make_92 : decode cX4_make 92 = .ok (.iload 7, 2) := by decide +kernel
theorem dX4_make_94 : decode cX4_make 94 = .ok (.invokevirtual 178, 3) := by decide +kernel
theorem dX4_make_97 : decode cX4_make 97 = .ok (.ireturn, 1) := by decide +kernel
theorem dX4_container_0 : decode cX4_container 0 = .ok (.aload_n 0, 1) := by decide +kernel
theorem dX4_container_1 : decode cX4_container 1 = .ok (.iload_n 1, 1) := by decide +kernel
theorem dX4_container_2 : decode cX4_container 2 = .ok (.invokevirtual 103, 3) := by decide +kernel
theorem dX4_container_5 : decode cX4_container 5 = .ok (.ifCond .eq 11, 3) := by decide +kernel
theorem dX4_container_8 : decode cX4_container 8 = .ok (.aload_n 0, 1) := by decide +kernel
theorem dX4_container_9 : decode cX4_container 9 = .ok (.iload_n 2, 1) := by decide +kernel
theorem dX4_container_10 : decode cX4_container 10 = .ok (.invokevirtual 181, 3) := by decide +kernel
theorem dX4_container_13 : decode cX4_container 13 = .ok (.ifCond .ne 6, 3) := by decide +kernel
theorem dX4_container_16 : decode cX4_container 16 = .ok (.ldc 107, 2) := by decide +kernel
theorem dX4_container_18 : decode cX4_container 18 = .ok (.ireturn, 1) := by decide +kernel
theorem dX4_container_19 : decode cX4_container 19 = .ok (.aload_n 0, 1) := by decide +kernel
theorem dX4_container_20 : decode cX4_container 20 = .ok (.iload_n 3, 1) := by decide +kernel
theorem dX4_container_21 : decode cX4_container 21 = .ok (.invokevirtual 129, 3) := by decide +kernel
theorem dX4_container_24 : decode cX4_container 24 = .ok (.ifCond .eq 38, 3) := by decide +kernel
theorem dX4_container_27 : decode cX4_container 27 = .ok (.aload_n 0, 1) := by decide +kernel
theorem dX4_container_28 : decode cX4_container 28 = .ok (.iload 4, 2) := by decide +kernel
theorem dX4_container_30 : decode cX4_container 30 = .ok (.invokevirtual 129, 3) := by decide +kernel
theorem dX4_container_33 : decode cX4_container 33 = .ok (.ifCond .eq 29, 3) := by decide +kernel
theorem dX4_container_36 : decode cX4_container 36 = .ok (.iload 5, 2) := by decide +kernel
theorem dX4_container_38 : decode cX4_container 38 = .ok (.i2l, 1) := by decide +kernel
theorem dX4_container_39 : decode cX4_container 39 = .ok (.lconst 0, 1) := by decide +kernel
theorem dX4_container_40 : decode cX4_container 40 = .ok (.ldc2_w 184, 3) := by decide +kernel
theorem dX4_container_43 : decode cX4_container 43 = .ok (.invokestatic 93, 3) := by decide +kernel
theorem dX4_container_46 : decode cX4_container 46 = .ok (.ifCond .eq 16, 3) := by decide +kernel
theorem dX4_container_49 : decode cX4_container 49 = .ok (.iload 6, 2) := by decide +kernel
theorem dX4_container_51 : decode cX4_container 51 = .ok (.i2l, 1) := by decide +kernel
theorem dX4_container_52 : decode cX4_container 52 = .ok (.lconst 0, 1) := by decide +kernel
theorem dX4_container_53 : decode cX4_container 53 = .ok (.ldc2_w 186, 3) := by decide +kernel
theorem dX4_container_56 : decode cX4_container 56 = .ok (.invokestatic 93, 3) := by decide +kernel
theorem dX4_container_59 : decode cX4_container 59 = .ok (.ifCond .ne 6, 3) := by decide +kernel
theorem dX4_container_62 : decode cX4_container 62 = .ok (.ldc 110, 2) := by decide +kernel
theorem dX4_container_64 : decode cX4_container 64 = .ok (.ireturn, 1) := by decide +kernel
theorem dX4_container_65 : decode cX4_container 65 = .ok (.aload_n 0, 1) := by decide +kernel
theorem dX4_container_66 : decode cX4_container 66 = .ok (.iload_n 1, 1) := by decide +kernel
theorem dX4_container_67 : decode cX4_container 67 = .ok (.iload_n 2, 1) := by decide +kernel
theorem dX4_container_68 : decode cX4_container 68 = .ok (.iload_n 3, 1) := by decide +kernel
theorem dX4_container_69 : decode cX4_container 69 = .ok (.iload 4, 2) := by decide +kernel
theorem dX4_container_71 : decode cX4_container 71 = .ok (.invokevirtual 188, 3) := by decide +kernel
theorem dX4_container_74 : decode cX4_container 74 = .ok (.ifCond .ne 6, 3) := by decide +kernel
theorem dX4_container_77 : decode cX4_container 77 = .ok (.ldc 135, 2) := by decide +kernel
theorem dX4_container_79 : decode cX4_container 79 = .ok (.ireturn, 1) := by decide +kernel
theorem dX4_container_80 : decode cX4_container 80 = .ok (.aload_n 0, 1) := by decide +kernel
theorem dX4_container_81 : decode cX4_container 81 = .ok (.getfield 90, 3) := by decide +kernel
theorem dX4_container_84 : decode cX4_container 84 = .ok (.bipush 60, 2) := by decide +kernel
theorem dX4_container_86 : decode cX4_container 86 = .ok (.if_icmp .eq 25, 3) := by decide +kernel
theorem dX4_container_89 : decode cX4_container 89 = .ok (.aload_n 0, 1) := by decide +kernel
theorem dX4_container_90 : decode cX4_container 90 = .ok (.iload_n 2, 1) := by decide +kernel
theorem dX4_container_91 : decode cX4_container 91 = .ok (.invokevirtual 191, 3) := by decide +kernel
theorem dX4_container_94 : decode cX4_container 94 = .ok (.iload 5, 2) := by decide +kernel
theorem dX4_container_96 : decode cX4_container 96 = .ok (.if_icmp .lt 15, 3) := by decide +kernel
theorem dX4_container_99 : decode cX4_container 99 = .ok (.aload_n 0, 1) := by decide +kernel
theorem dX4_container_100 : decode cX4_container 100 = .ok (.iload_n 2, 1) := by decide +kernel
theorem dX4_container_101 : decode cX4_container 101 = .ok (.invokevirtual 194, 3) := by decide +kernel
theorem dX4_container_104 : decode cX4_container 104 = .ok (.iload 6, 2) := by decide +kernel
theorem dX4_container_106 : decode cX4_container 106 = .ok (.iconst 1, 1) := by decide +kernel
theorem dX4_container_107 : decode cX4_container 107 = .ok (.iadd, 1) := by decide +kernel
theorem dX4_container_108 : decode cX4_container 108 = .ok (.if_icmp .ge 6, 3) := by decide +kernel
theorem dX4_container_111 : decode cX4_container 111 = .ok (.ldc 111, 2) := by decide +kernel
theorem dX4_container_113 : decode cX4_container 113 = .ok (.ireturn, 1) := by decide +kernel
theorem dX4_container_114 : decode cX4_container 114 = .ok (.aload_n 0, 1) := by decide +kernel
theorem dX4_container_115 : decode cX4_container 115 = .ok (.iload_n 2, 1) := by decide +kernel
theorem dX4_container_116 : decode cX4_container 116 = .ok (.iload_n 3, 1) := by decide +kernel
theorem dX4_container_117 : decode cX4_container 117 = .ok (.iload 4, 2) := by decide +kernel
theorem dX4_container_119 : decode cX4_container 119 = .ok (.iconst 1, 1) := by decide +kernel
theorem dX4_container_120 : decode cX4_container 120 = .ok (.iload 5, 2) := by decide +kernel
theorem dX4_container_122 : decode cX4_container 122 = .ok (.iload 6, 2) := by decide +kernel
theorem dX4_container_124 : decode cX4_container 124 = .ok (.invokevirtual 197, 3) := by decide +kernel
theorem dX4_container_127 : decode cX4_container 127 = .ok (.ireturn, 1) := by decide +kernel
theorem dX4_file_0 : decode cX4_file 0 = .ok (.aload_n 0, 1) := by decide +kernel
theorem dX4_file_1 : decode cX4_file 1 = .ok (.iload_n 1, 1) := by decide +kernel
theorem dX4_file_2 : decode cX4_file 2 = .ok (.invokevirtual 103, 3) := by decide +kernel
theorem dX4_file_5 : decode cX4_file 5 = .ok (.ifCond .eq 11, 3) := by decide +kernel
theorem dX4_file_8 : decode cX4_file 8 = .ok (.aload_n 0, 1) := by decide +kernel
theorem dX4_file_9 : decode cX4_file 9 = .ok (.iload_n 2, 1) := by decide +kernel
theorem dX4_file_10 : decode cX4_file 10 = .ok (.invokevirtual 181, 3) := by decide +kernel
theorem dX4_file_13 : decode cX4_file 13 = .ok (.ifCond .ne 6, 3) := by decide +kernel
theorem dX4_file_16 : decode cX4_file 16 = .ok (.ldc 107, 2) := by decide +kernel
theorem dX4_file_18 : decode cX4_file 18 = .ok (.ireturn, 1) := by decide +kernel
theorem dX4_file_19 : decode cX4_file 19 = .ok (.aload_n 0, 1) := by decide +kernel
theorem dX4_file_20 : decode cX4_file 20 = .ok (.iload_n 3, 1) := by decide +kernel
theorem dX4_file_21 : decode cX4_file 21 = .ok (.invokevirtual 129, 3) := by decide +kernel
theorem dX4_file_24 : decode cX4_file 24 = .ok (.ifCond .eq 12, 3) := by decide +kernel
theorem dX4_file_27 : decode cX4_file 27 = .ok (.aload_n 0, 1) := by decide +kernel
theorem dX4_file_28 : decode cX4_file 28 = .ok (.iload 4, 2) := by decide +kernel
theorem dX4_file_30 : decode cX4_file 30 = .ok (.invokevirtual 129, 3) := by decide +kernel
theorem dX4_file_33 : decode cX4_file 33 = .ok (.ifCond .ne 6, 3) := by decide +kernel
theorem dX4_file_36 : decode cX4_file 36 = .ok (.ldc 110, 2) := by decide +kernel
theorem dX4_file_38 : decode cX4_file 38 = .ok (.ireturn, 1) := by decide +kernel
theorem dX4_file_39 : decode cX4_file 39 = .ok (.aload_n 0, 1) := by decide +kernel
theorem dX4_file_40 : decode cX4_file 40 = .ok (.iload_n 1, 1) := by decide +kernel
theorem dX4_file_41 : decode cX4_file 41 = .ok (.iload_n 2, 1) := by decide +kernel
theorem dX4_file_42 : decode cX4_file 42 = .ok (.iload_n 3, 1) := by decide +kernel
theorem dX4_file_43 : decode cX4_file 43 = .ok (.iload 4, 2) := by decide +kernel
theorem dX4_file_45 : decode cX4_file 45 = .ok (.invokevirtual 188, 3) := by decide +kernel
theorem dX4_file_48 : decode cX4_file 48 = .ok (.ifCond .ne 6, 3) := by decide +kernel
theorem dX4_file_51 : decode cX4_file 51 = .ok (.ldc 135, 2) := by decide +kernel
theorem dX4_file_53 : decode cX4_file 53 = .ok (.ireturn, 1) := by decide +kernel
theorem dX4_file_54 : decode cX4_file 54 = .ok (.aload_n 0, 1) := by decide +kernel
theorem dX4_file_55 : decode cX4_file 55 = .ok (.getfield 90, 3) := by decide +kernel
theorem dX4_file_58 : decode cX4_file 58 = .ok (.bipush 60, 2) := by decide +kernel
theorem dX4_file_60 : decode cX4_file 60 = .ok (.if_icmp .eq 12, 3) := by decide +kernel
theorem dX4_file_63 : decode cX4_file 63 = .ok (.aload_n 0, 1) := by decide +kernel
theorem dX4_file_64 : decode cX4_file 64 = .ok (.iload_n 2, 1) := by decide +kernel
theorem dX4_file_65 : decode cX4_file 65 = .ok (.invokevirtual 194, 3) := by decide +kernel
theorem dX4_file_68 : decode cX4_file 68 = .ok (.iconst 1, 1) := by decide +kernel
theorem dX4_file_69 : decode cX4_file 69 = .ok (.if_icmp .ge 6, 3) := by decide +kernel
theorem dX4_file_72 : decode cX4_file 72 = .ok (.ldc 111, 2) := by decide +kernel
theorem dX4_file_74 : decode cX4_file 74 = .ok (.ireturn, 1) := by decide +kernel
theorem dX4_file_75 : decode cX4_file 75 = .ok (.aload_n 0, 1) := by decide +kernel
theorem dX4_file_76 : decode cX4_file 76 = .ok (.iload_n 2, 1) := by decide +kernel
theorem dX4_file_77 : decode cX4_file 77 = .ok (.iload_n 3, 1) := by decide +kernel
theorem dX4_file_78 : decode cX4_file 78 = .ok (.iload 4, 2) := by decide +kernel
theorem dX4_file_80 : decode cX4_file 80 = .ok (.iconst 0, 1) := by decide +kernel
theorem dX4_file_81 : decode cX4_file 81 = .ok (.iconst 0, 1) := by decide +kernel
theorem dX4_file_82 : decode cX4_file 82 = .ok (.iconst 0, 1) := by decide +kernel
theorem dX4_file_83 : decode cX4_file 83 = .ok (.invokevirtual 197, 3) := by decide +kernel
theorem dX4_file_86 : decode cX4_file 86 = .ok (.ireturn, 1) := by decide +kernel
theorem dX4_remove_0 : decode cX4_remove 0 = .ok (.aload_n 0, 1) := by decide +kernel
theorem dX4_remove_1 : decode cX4_remove 1 = .ok (.iload_n 1, 1) := by decide +kernel
theorem dX4_remove_2 : decode cX4_remove 2 = .ok (.invokevirtual 103, 3) := by decide +kernel
theorem dX4_remove_5 : decode cX4_remove 5 = .ok (.ifCond .eq 11, 3) := by decide +kernel
theorem dX4_remove_8 : decode cX4_remove 8 = .ok (.aload_n 0, 1) := by decide +kernel
theorem dX4_remove_9 : decode cX4_remove 9 = .ok (.iload_n 2, 1) := by decide +kernel
theorem dX4_remove_10 : decode cX4_remove 10 = .ok (.invokevirtual 172, 3) := by decide +kernel
theorem dX4_remove_13 : decode cX4_remove 13 = .ok (.ifCond .ne 6, 3) := by decide +kernel
theorem dX4_remove_16 : decode cX4_remove 16 = .ok (.ldc 107, 2) := by decide +kernel
theorem dX4_remove_18 : decode cX4_remove 18 = .ok (.ireturn, 1) := by decide +kernel
theorem dX4_remove_19 : decode cX4_remove 19 = .ok (.iload_n 2, 1) := by decide +kernel
theorem dX4_remove_20 : decode cX4_remove 20 = .ok (.ifCond .eq 31, 3) := by decide +kernel
theorem dX4_remove_23 : decode cX4_remove 23 = .ok (.aload_n 0, 1) := by decide +kernel
theorem dX4_remove_24 : decode cX4_remove 24 = .ok (.iload_n 1, 1) := by decide +kernel
theorem dX4_remove_25 : decode cX4_remove 25 = .ok (.aload_n 0, 1) := by decide +kernel
theorem dX4_remove_26 : decode cX4_remove 26 = .ok (.getfield 62, 3) := by decide +kernel
theorem dX4_remove_29 : decode cX4_remove 29 = .ok (.iload_n 2, 1) := by decide +kernel
theorem dX4_remove_30 : decode cX4_remove 30 = .ok (.iaload, 1) := by decide +kernel
theorem dX4_remove_31 : decode cX4_remove 31 = .ok (.invokevirtual 165, 3) := by decide +kernel
theorem dX4_remove_34 : decode cX4_remove 34 = .ok (.ifCond .eq 17, 3) := by decide +kernel
theorem dX4_remove_37 : decode cX4_remove 37 = .ok (.aload_n 0, 1) := by decide +kernel
theorem dX4_remove_38 : decode cX4_remove 38 = .ok (.iload_n 1, 1) := by decide +kernel
theorem dX4_remove_39 : decode cX4_remove 39 = .ok (.aload_n 0, 1) := by decide +kernel
theorem dX4_remove_40 : decode cX4_remove 40 = .ok (.getfield 62, 3) := by decide +kernel
theorem dX4_remove_43 : decode cX4_remove 43 = .ok (.iload_n 2, 1) := by decide +kernel
theorem dX4_remove_44 : decode cX4_remove 44 = .ok (.iaload, 1) := by decide +kernel
theorem dX4_remove_45 : decode cX4_remove 45 = .ok (.invokevirtual 169, 3) := by decide +kernel
theorem dX4_remove_48 : decode cX4_remove 48 = .ok (.ifCond .ne 6, 3) := by decide +kernel
theorem dX4_remove_51 : decode cX4_remove 51 = .ok (.ldc 135, 2) := by decide +kernel
theorem dX4_remove_53 : decode cX4_remove 53 = .ok (.ireturn, 1) := by decide +kernel
theorem dX4_remove_54 : decode cX4_remove 54 = .ok (.iconst 0, 1) := by decide +kernel
theorem dX4_remove_55 : decode cX4_remove 55 = .ok (.istore_n 3, 1) := by decide +kernel
theorem dX4_remove_56 : decode cX4_remove 56 = .ok (.iconst 0, 1) := by decide +kernel
theorem dX4_remove_57 : decode cX4_remove 57 = .ok (.istore 4, 2) := by decide +kernel
theorem dX4_remove_59 : decode cX4_remove 59 = .ok (.iload 4, 2) := by decide +kernel
theorem dX4_remove_61 : decode cX4_remove 61 = .ok (.aload_n 0, 1) := by decide +kernel
theorem dX4_remove_62 : decode cX4_remove 62 = .ok (.getfield 90, 3) := by decide +kernel
theorem dX4_remove_65 : decode cX4_remove 65 = .ok (.if_icmp .ge 80, 3) := by decide +kernel
theorem dX4_remove_68 : decode cX4_remove 68 = .ok (.aload_n 0, 1) := by decide +kernel
theorem dX4_remove_69 : decode cX4_remove 69 = .ok (.getfield 81, 3) := by decide +kernel
theorem dX4_remove_72 : decode cX4_remove 72 = .ok (.iload 4, 2) := by decide +kernel
theorem dX4_remove_74 : decode cX4_remove 74 = .ok (.aload_n 0, 1) := by decide +kernel
theorem dX4_remove_75 : decode cX4_remove 75 = .ok (.getfield 50, 3) := by decide +kernel
theorem dX4_remove_78 : decode cX4_remove 78 = .ok (.iload 4, 2) := by decide +kernel
theorem dX4_remove_80 : decode cX4_remove 80 = .ok (.baload, 1) := by decide +kernel
theorem dX4_remove_81 : decode cX4_remove 81 = .ok (.ifCond .eq 38, 3) := by decide +kernel
theorem dX4_remove_84 : decode cX4_remove 84 = .ok (.iload 4, 2) := by decide +kernel
theorem dX4_remove_86 : decode cX4_remove 86 = .ok (.iload_n 2, 1) := by decide +kernel
theorem dX4_remove_87 : decode cX4_remove 87 = .ok (.if_icmp .eq 28, 3) := by decide +kernel
theorem dX4_remove_90 : decode cX4_remove 90 = .ok (.aload_n 0, 1) := by decide +kernel
theorem dX4_remove_91 : decode cX4_remove 91 = .ok (.getfield 62, 3) := by decide +kernel
theorem dX4_remove_94 : decode cX4_remove 94 = .ok (.iload 4, 2) := by decide +kernel
theorem dX4_remove_96 : decode cX4_remove 96 = .ok (.iaload, 1) := by decide +kernel
theorem dX4_remove_97 : decode cX4_remove 97 = .ok (.ifCond .lt 22, 3) := by decide +kernel
theorem dX4_remove_100 : decode cX4_remove 100 = .ok (.aload_n 0, 1) := by decide +kernel
theorem dX4_remove_101 : decode cX4_remove 101 = .ok (.getfield 81, 3) := by decide +kernel
theorem dX4_remove_104 : decode cX4_remove 104 = .ok (.aload_n 0, 1) := by decide +kernel
theorem dX4_remove_105 : decode cX4_remove 105 = .ok (.getfield 62, 3) := by decide +kernel
theorem dX4_remove_108 : decode cX4_remove 108 = .ok (.iload 4, 2) := by decide +kernel
theorem dX4_remove_110 : decode cX4_remove 110 = .ok (.iaload, 1) := by decide +kernel
theorem dX4_remove_111 : decode cX4_remove 111 = .ok (.baload, 1) := by decide +kernel
theorem dX4_remove_112 : decode cX4_remove 112 = .ok (.ifCond .eq 7, 3) := by decide +kernel
theorem dX4_remove_115 : decode cX4_remove 115 = .ok (.iconst 1, 1) := by decide +kernel
theorem dX4_remove_116 : decode cX4_remove 116 = .ok (.goto 4, 3) := by decide +kernel
theorem dX4_remove_119 : decode cX4_remove 119 = .ok (.iconst 0, 1) := by decide +kernel
theorem dX4_remove_120 : decode cX4_remove 120 = .ok (.bastore, 1) := by decide +kernel
theorem dX4_remove_121 : decode cX4_remove 121 = .ok (.iload_n 3, 1) := by decide +kernel
theorem dX4_remove_122 : decode cX4_remove 122 = .ok (.aload_n 0, 1) := by decide +kernel
theorem dX4_remove_123 : decode cX4_remove 123 = .ok (.getfield 81, 3) := by decide +kernel
theorem dX4_remove_126 : decode cX4_remove 126 = .ok (.iload 4, 2) := by decide +kernel
theorem dX4_remove_128 : decode cX4_remove 128 = .ok (.baload, 1) := by decide +kernel
theorem dX4_remove_129 : decode cX4_remove 129 = .ok (.ifCond .eq 7, 3) := by decide +kernel
theorem dX4_remove_132 : decode cX4_remove 132 = .ok (.iconst 1, 1) := by decide +kernel
theorem dX4_remove_133 : decode cX4_remove 133 = .ok (.goto 4, 3) := by decide +kernel
theorem dX4_remove_136 : decode cX4_remove 136 = .ok (.iconst 0, 1) := by decide +kernel
theorem dX4_remove_137 : decode cX4_remove 137 = .ok (.iadd, 1) := by decide +kernel
theorem dX4_remove_138 : decode cX4_remove 138 = .ok (.istore_n 3, 1) := by decide +kernel
theorem dX4_remove_139 : decode cX4_remove 139 = .ok (.iinc 4 1, 3) := by decide +kernel
theorem dX4_remove_142 : decode cX4_remove 142 = .ok (.goto (-83), 3) := by decide +kernel
theorem dX4_remove_145 : decode cX4_remove 145 = .ok (.aload_n 0, 1) := by decide +kernel
theorem dX4_remove_146 : decode cX4_remove 146 = .ok (.iload_n 3, 1) := by decide +kernel
theorem dX4_remove_147 : decode cX4_remove 147 = .ok (.iconst 1, 1) := by decide +kernel
theorem dX4_remove_148 : decode cX4_remove 148 = .ok (.iadd, 1) := by decide +kernel
theorem dX4_remove_149 : decode cX4_remove 149 = .ok (.invokevirtual 175, 3) := by decide +kernel
theorem dX4_remove_152 : decode cX4_remove 152 = .ok (.ifCond .eq 53, 3) := by decide +kernel
theorem dX4_remove_155 : decode cX4_remove 155 = .ok (.iconst 0, 1) := by decide +kernel
theorem dX4_remove_156 : decode cX4_remove 156 = .ok (.istore 4, 2) := by decide +kernel
theorem dX4_remove_158 : decode cX4_remove 158 = .ok (.iload 4, 2) := by decide +kernel
theorem dX4_remove_160 : decode cX4_remove 160 = .ok (.aload_n 0, 1) := by decide +kernel
theorem dX4_remove_161 : decode cX4_remove 161 = .ok (.getfield 90, 3) := by decide +kernel
theorem dX4_remove_164 : decode cX4_remove 164 = .ok (.if_icmp .ge 41, 3) := by decide +kernel
theorem dX4_remove_167 : decode cX4_remove 167 = .ok (.aload_n 0, 1) := by decide +kernel
theorem dX4_remove_168 : decode cX4_remove 168 = .ok (.getfield 50, 3) := by decide +kernel
theorem dX4_remove_171 : decode cX4_remove 171 = .ok (.iload 4, 2) := by decide +kernel
theorem dX4_remove_173 : decode cX4_remove 173 = .ok (.aload_n 0, 1) := by decide +kernel
theorem dX4_remove_174 : decode cX4_remove 174 = .ok (.getfield 50, 3) := by decide +kernel
theorem dX4_remove_177 : decode cX4_remove 177 = .ok (.iload 4, 2) := by decide +kernel
theorem dX4_remove_179 : decode cX4_remove 179 = .ok (.baload, 1) := by decide +kernel
theorem dX4_remove_180 : decode cX4_remove 180 = .ok (.ifCond .eq 17, 3) := by decide +kernel
theorem dX4_remove_183 : decode cX4_remove 183 = .ok (.aload_n 0, 1) := by decide +kernel
theorem dX4_remove_184 : decode cX4_remove 184 = .ok (.getfield 81, 3) := by decide +kernel
theorem dX4_remove_187 : decode cX4_remove 187 = .ok (.iload 4, 2) := by decide +kernel
theorem dX4_remove_189 : decode cX4_remove 189 = .ok (.baload, 1) := by decide +kernel
theorem dX4_remove_190 : decode cX4_remove 190 = .ok (.ifCond .ne 7, 3) := by decide +kernel
theorem dX4_remove_193 : decode cX4_remove 193 = .ok (.iconst 1, 1) := by decide +kernel
theorem dX4_remove_194 : decode cX4_remove 194 = .ok (.goto 4, 3) := by decide +kernel
theorem dX4_remove_197 : decode cX4_remove 197 = .ok (.iconst 0, 1) := by decide +kernel
theorem dX4_remove_198 : decode cX4_remove 198 = .ok (.bastore, 1) := by decide +kernel
theorem dX4_remove_199 : decode cX4_remove 199 = .ok (.iinc 4 1, 3) := by decide +kernel
theorem dX4_remove_202 : decode cX4_remove 202 = .ok (.goto (-44), 3) := by decide +kernel
theorem dX4_remove_205 : decode cX4_remove 205 = .ok (.aload_n 0, 1) := by decide +kernel
theorem dX4_remove_206 : decode cX4_remove 206 = .ok (.iconst 1, 1) := by decide +kernel
theorem dX4_remove_207 : decode cX4_remove 207 = .ok (.invokevirtual 178, 3) := by decide +kernel
theorem dX4_remove_210 : decode cX4_remove 210 = .ok (.ireturn, 1) := by decide +kernel
theorem dX4_isFile_0 : decode cX4_isFile 0 = .ok (.aload_n 0, 1) := by decide +kernel
theorem dX4_isFile_1 : decode cX4_isFile 1 = .ok (.iload_n 1, 1) := by decide +kernel
theorem dX4_isFile_2 : decode cX4_isFile 2 = .ok (.invokevirtual 172, 3) := by decide +kernel
theorem dX4_isFile_5 : decode cX4_isFile 5 = .ok (.ifCond .eq 16, 3) := by decide +kernel
theorem dX4_isFile_8 : decode cX4_isFile 8 = .ok (.aload_n 0, 1) := by decide +kernel
theorem dX4_isFile_9 : decode cX4_isFile 9 = .ok (.getfield 53, 3) := by decide +kernel
theorem dX4_isFile_12 : decode cX4_isFile 12 = .ok (.iload_n 1, 1) := by decide +kernel
theorem dX4_isFile_13 : decode cX4_isFile 13 = .ok (.baload, 1) := by decide +kernel
theorem dX4_isFile_14 : decode cX4_isFile 14 = .ok (.ifCond .ne 7, 3) := by decide +kernel
theorem dX4_isFile_17 : decode cX4_isFile 17 = .ok (.iconst 1, 1) := by decide +kernel
theorem dX4_isFile_18 : decode cX4_isFile 18 = .ok (.goto 4, 3) := by decide +kernel
theorem dX4_isFile_21 : decode cX4_isFile 21 = .ok (.iconst 0, 1) := by decide +kernel
theorem dX4_isFile_22 : decode cX4_isFile 22 = .ok (.ireturn, 1) := by decide +kernel
theorem dX4_write_0 : decode cX4_write 0 = .ok (.aload_n 0, 1) := by decide +kernel
theorem dX4_write_1 : decode cX4_write 1 = .ok (.iload_n 1, 1) := by decide +kernel
theorem dX4_write_2 : decode cX4_write 2 = .ok (.invokevirtual 103, 3) := by decide +kernel
theorem dX4_write_5 : decode cX4_write 5 = .ok (.ifCond .eq 11, 3) := by decide +kernel
theorem dX4_write_8 : decode cX4_write 8 = .ok (.aload_n 0, 1) := by decide +kernel
theorem dX4_write_9 : decode cX4_write 9 = .ok (.iload_n 2, 1) := by decide +kernel
theorem dX4_write_10 : decode cX4_write 10 = .ok (.invokevirtual 201, 3) := by decide +kernel
theorem dX4_write_13 : decode cX4_write 13 = .ok (.ifCond .ne 6, 3) := by decide +kernel
theorem dX4_write_16 : decode cX4_write 16 = .ok (.ldc 107, 2) := by decide +kernel
theorem dX4_write_18 : decode cX4_write 18 = .ok (.ireturn, 1) := by decide +kernel
theorem dX4_write_19 : decode cX4_write 19 = .ok (.iload_n 3, 1) := by decide +kernel
theorem dX4_write_20 : decode cX4_write 20 = .ok (.i2l, 1) := by decide +kernel
theorem dX4_write_21 : decode cX4_write 21 = .ok (.lconst 0, 1) := by decide +kernel
theorem dX4_write_22 : decode cX4_write 22 = .ok (.ldc2_w 204, 3) := by decide +kernel
theorem dX4_write_25 : decode cX4_write 25 = .ok (.invokestatic 93, 3) := by decide +kernel
theorem dX4_write_28 : decode cX4_write 28 = .ok (.ifCond .ne 6, 3) := by decide +kernel
theorem dX4_write_31 : decode cX4_write 31 = .ok (.ldc 110, 2) := by decide +kernel
theorem dX4_write_33 : decode cX4_write 33 = .ok (.ireturn, 1) := by decide +kernel
theorem dX4_write_34 : decode cX4_write 34 = .ok (.aload_n 0, 1) := by decide +kernel
theorem dX4_write_35 : decode cX4_write 35 = .ok (.iload_n 1, 1) := by decide +kernel
theorem dX4_write_36 : decode cX4_write 36 = .ok (.iload_n 2, 1) := by decide +kernel
theorem dX4_write_37 : decode cX4_write 37 = .ok (.invokevirtual 169, 3) := by decide +kernel
theorem dX4_write_40 : decode cX4_write 40 = .ok (.ifCond .ne 6, 3) := by decide +kernel
theorem dX4_write_43 : decode cX4_write 43 = .ok (.ldc 135, 2) := by decide +kernel
theorem dX4_write_45 : decode cX4_write 45 = .ok (.ireturn, 1) := by decide +kernel
theorem dX4_write_46 : decode cX4_write 46 = .ok (.aload_n 0, 1) := by decide +kernel
theorem dX4_write_47 : decode cX4_write 47 = .ok (.iload_n 1, 1) := by decide +kernel
theorem dX4_write_48 : decode cX4_write 48 = .ok (.iload_n 2, 1) := by decide +kernel
theorem dX4_write_49 : decode cX4_write 49 = .ok (.invokevirtual 165, 3) := by decide +kernel
theorem dX4_write_52 : decode cX4_write 52 = .ok (.ifCond .ne 7, 3) := by decide +kernel
theorem dX4_write_55 : decode cX4_write 55 = .ok (.iconst 1, 1) := by decide +kernel
theorem dX4_write_56 : decode cX4_write 56 = .ok (.goto 4, 3) := by decide +kernel
theorem dX4_write_59 : decode cX4_write 59 = .ok (.iconst 0, 1) := by decide +kernel
theorem dX4_write_60 : decode cX4_write 60 = .ok (.istore 5, 2) := by decide +kernel
theorem dX4_write_62 : decode cX4_write 62 = .ok (.iload_n 3, 1) := by decide +kernel
theorem dX4_write_63 : decode cX4_write 63 = .ok (.aload_n 0, 1) := by decide +kernel
theorem dX4_write_64 : decode cX4_write 64 = .ok (.getfield 71, 3) := by decide +kernel
theorem dX4_write_67 : decode cX4_write 67 = .ok (.iload_n 2, 1) := by decide +kernel
theorem dX4_write_68 : decode cX4_write 68 = .ok (.iaload, 1) := by decide +kernel
theorem dX4_write_69 : decode cX4_write 69 = .ok (.if_icmp .le 15, 3) := by decide +kernel
theorem dX4_write_72 : decode cX4_write 72 = .ok (.iload 5, 2) := by decide +kernel
theorem dX4_write_74 : decode cX4_write 74 = .ok (.ifCond .eq 7, 3) := by decide +kernel
theorem dX4_write_77 : decode cX4_write 77 = .ok (.iconst 1, 1) := by decide +kernel
theorem dX4_write_78 : decode cX4_write 78 = .ok (.goto 5, 3) := by decide +kernel
theorem dX4_write_81 : decode cX4_write 81 = .ok (.ldc 110, 2) := by decide +kernel
theorem dX4_write_83 : decode cX4_write 83 = .ok (.ireturn, 1) := by decide +kernel
theorem dX4_write_84 : decode cX4_write 84 = .ok (.iload_n 3, 1) := by decide +kernel
theorem dX4_write_85 : decode cX4_write 85 = .ok (.aload_n 0, 1) := by decide +kernel
theorem dX4_write_86 : decode cX4_write 86 = .ok (.getfield 71, 3) := by decide +kernel
theorem dX4_write_89 : decode cX4_write 89 = .ok (.iload_n 2, 1) := by decide +kernel
theorem dX4_write_90 : decode cX4_write 90 = .ok (.iaload, 1) := by decide +kernel
theorem dX4_write_91 : decode cX4_write 91 = .ok (.if_icmp .ne 35, 3) := by decide +kernel
theorem dX4_write_94 : decode cX4_write 94 = .ok (.iload_n 3, 1) := by decide +kernel
theorem dX4_write_95 : decode cX4_write 95 = .ok (.iconst 4, 1) := by decide +kernel
theorem dX4_write_96 : decode cX4_write 96 = .ok (.irem, 1) := by decide +kernel
theorem dX4_write_97 : decode cX4_write 97 = .ok (.ifCond .ne 29, 3) := by decide +kernel
theorem dX4_write_100 : decode cX4_write 100 = .ok (.aload_n 0, 1) := by decide +kernel
theorem dX4_write_101 : decode cX4_write 101 = .ok (.aload_n 0, 1) := by decide +kernel
theorem dX4_write_102 : decode cX4_write 102 = .ok (.getfield 62, 3) := by decide +kernel
theorem dX4_write_105 : decode cX4_write 105 = .ok (.iload_n 2, 1) := by decide +kernel
theorem dX4_write_106 : decode cX4_write 106 = .ok (.iaload, 1) := by decide +kernel
theorem dX4_write_107 : decode cX4_write 107 = .ok (.invokevirtual 191, 3) := by decide +kernel
theorem dX4_write_110 : decode cX4_write 110 = .ok (.iconst 1, 1) := by decide +kernel
theorem dX4_write_111 : decode cX4_write 111 = .ok (.if_icmp .ge 15, 3) := by decide +kernel
theorem dX4_write_114 : decode cX4_write 114 = .ok (.iload 5, 2) := by decide +kernel
theorem dX4_write_116 : decode cX4_write 116 = .ok (.ifCond .eq 7, 3) := by decide +kernel
theorem dX4_write_119 : decode cX4_write 119 = .ok (.iconst 1, 1) := by decide +kernel
theorem dX4_write_120 : decode cX4_write 120 = .ok (.goto 5, 3) := by decide +kernel
theorem dX4_write_123 : decode cX4_write 123 = .ok (.ldc 111, 2) := by decide +kernel
theorem dX4_write_125 : decode cX4_write 125 = .ok (.ireturn, 1) := by decide +kernel
theorem dX4_write_126 : decode cX4_write 126 = .ok (.aload_n 0, 1) := by decide +kernel
theorem dX4_write_127 : decode cX4_write 127 = .ok (.iconst 2, 1) := by decide +kernel
theorem dX4_write_128 : decode cX4_write 128 = .ok (.invokevirtual 175, 3) := by decide +kernel
theorem dX4_write_131 : decode cX4_write 131 = .ok (.ifCond .eq 44, 3) := by decide +kernel
theorem dX4_write_134 : decode cX4_write 134 = .ok (.aload_n 0, 1) := by decide +kernel
theorem dX4_write_135 : decode cX4_write 135 = .ok (.getfield 74, 3) := by decide +kernel
theorem dX4_write_138 : decode cX4_write 138 = .ok (.bipush 32, 2) := by decide +kernel
theorem dX4_write_140 : decode cX4_write 140 = .ok (.iload_n 2, 1) := by decide +kernel
theorem dX4_write_141 : decode cX4_write 141 = .ok (.imul, 1) := by decide +kernel
theorem dX4_write_142 : decode cX4_write 142 = .ok (.iload_n 3, 1) := by decide +kernel
theorem dX4_write_143 : decode cX4_write 143 = .ok (.iadd, 1) := by decide +kernel
theorem dX4_write_144 : decode cX4_write 144 = .ok (.iload 4, 2) := by decide +kernel
theorem dX4_write_146 : decode cX4_write 146 = .ok (.iastore, 1) := by decide +kernel
theorem dX4_write_147 : decode cX4_write 147 = .ok (.aload_n 0, 1) := by decide +kernel
theorem dX4_write_148 : decode cX4_write 148 = .ok (.getfield 71, 3) := by decide +kernel
theorem dX4_write_151 : decode cX4_write 151 = .ok (.iload_n 2, 1) := by decide +kernel
theorem dX4_write_152 : decode cX4_write 152 = .ok (.iload_n 3, 1) := by decide +kernel
theorem dX4_write_153 : decode cX4_write 153 = .ok (.aload_n 0, 1) := by decide +kernel
theorem dX4_write_154 : decode cX4_write 154 = .ok (.getfield 71, 3) := by decide +kernel
theorem dX4_write_157 : decode cX4_write 157 = .ok (.iload_n 2, 1) := by decide +kernel
theorem dX4_write_158 : decode cX4_write 158 = .ok (.iaload, 1) := by decide +kernel
theorem dX4_write_159 : decode cX4_write 159 = .ok (.if_icmp .ne 9, 3) := by decide +kernel
theorem dX4_write_162 : decode cX4_write 162 = .ok (.iload_n 3, 1) := by decide +kernel
theorem dX4_write_163 : decode cX4_write 163 = .ok (.iconst 1, 1) := by decide +kernel
theorem dX4_write_164 : decode cX4_write 164 = .ok (.iadd, 1) := by decide +kernel
theorem dX4_write_165 : decode cX4_write 165 = .ok (.goto 9, 3) := by decide +kernel
theorem dX4_write_168 : decode cX4_write 168 = .ok (.aload_n 0, 1) := by decide +kernel
theorem dX4_write_169 : decode cX4_write 169 = .ok (.getfield 71, 3) := by decide +kernel
theorem dX4_write_172 : decode cX4_write 172 = .ok (.iload_n 2, 1) := by decide +kernel
theorem dX4_write_173 : decode cX4_write 173 = .ok (.iaload, 1) := by decide +kernel
theorem dX4_write_174 : decode cX4_write 174 = .ok (.iastore, 1) := by decide +kernel
theorem dX4_write_175 : decode cX4_write 175 = .ok (.aload_n 0, 1) := by decide +kernel
theorem dX4_write_176 : decode cX4_write 176 = .ok (.iconst 1, 1) := by decide +kernel
theorem dX4_write_177 : decode cX4_write 177 = .ok (.invokevirtual 178, 3) := by decide +kernel
theorem dX4_write_180 : decode cX4_write 180 = .ok (.ireturn, 1) := by decide +kernel
theorem dX4_append_0 : decode cX4_append 0 = .ok (.aload_n 0, 1) := by decide +kernel
theorem dX4_append_1 : decode cX4_append 1 = .ok (.iload_n 1, 1) := by decide +kernel
theorem dX4_append_2 : decode cX4_append 2 = .ok (.invokevirtual 103, 3) := by decide +kernel
theorem dX4_append_5 : decode cX4_append 5 = .ok (.ifCond .eq 11, 3) := by decide +kernel
theorem dX4_append_8 : decode cX4_append 8 = .ok (.aload_n 0, 1) := by decide +kernel
theorem dX4_append_9 : decode cX4_append 9 = .ok (.iload_n 2, 1) := by decide +kernel
theorem dX4_append_10 : decode cX4_append 10 = .ok (.invokevirtual 201, 3) := by decide +kernel
theorem dX4_append_13 : decode cX4_append 13 = .ok (.ifCond .ne 6, 3) := by decide +kernel
theorem dX4_append_16 : decode cX4_append 16 = .ok (.ldc 107, 2) := by decide +kernel
theorem dX4_append_18 : decode cX4_append 18 = .ok (.ireturn, 1) := by decide +kernel
theorem dX4_append_19 : decode cX4_append 19 = .ok (.iload_n 3, 1) := by decide +kernel
theorem dX4_append_20 : decode cX4_append 20 = .ok (.i2l, 1) := by decide +kernel
theorem dX4_append_21 : decode cX4_append 21 = .ok (.lconst 1, 1) := by decide +kernel
theorem dX4_append_22 : decode cX4_append 22 = .ok (.ldc2_w 206, 3) := by decide +kernel
theorem dX4_append_25 : decode cX4_append 25 = .ok (.invokestatic 93, 3) := by decide +kernel
theorem dX4_append_28 : decode cX4_append 28 = .ok (.ifCond .ne 6, 3) := by decide +kernel
theorem dX4_append_31 : decode cX4_append 31 = .ok (.ldc 110, 2) := by decide +kernel
theorem dX4_append_33 : decode cX4_append 33 = .ok (.ireturn, 1) := by decide +kernel
theorem dX4_append_34 : decode cX4_append 34 = .ok (.aload_n 0, 1) := by decide +kernel
theorem dX4_append_35 : decode cX4_append 35 = .ok (.iload_n 1, 1) := by decide +kernel
theorem dX4_append_36 : decode cX4_append 36 = .ok (.iload_n 2, 1) := by decide +kernel
theorem dX4_append_37 : decode cX4_append 37 = .ok (.invokevirtual 169, 3) := by decide +kernel
theorem dX4_append_40 : decode cX4_append 40 = .ok (.ifCond .ne 6, 3) := by decide +kernel
theorem dX4_append_43 : decode cX4_append 43 = .ok (.ldc 135, 2) := by decide +kernel
theorem dX4_append_45 : decode cX4_append 45 = .ok (.ireturn, 1) := by decide +kernel
theorem dX4_append_46 : decode cX4_append 46 = .ok (.aload_n 0, 1) := by decide +kernel
theorem dX4_append_47 : decode cX4_append 47 = .ok (.iload_n 1, 1) := by decide +kernel
theorem dX4_append_48 : decode cX4_append 48 = .ok (.iload_n 2, 1) := by decide +kernel
theorem dX4_append_49 : decode cX4_append 49 = .ok (.invokevirtual 165, 3) := by decide +kernel
theorem dX4_append_52 : decode cX4_append 52 = .ok (.ifCond .ne 7, 3) := by decide +kernel
theorem dX4_append_55 : decode cX4_append 55 = .ok (.iconst 1, 1) := by decide +kernel
theorem dX4_append_56 : decode cX4_append 56 = .ok (.goto 4, 3) := by decide +kernel
theorem dX4_append_59 : decode cX4_append 59 = .ok (.iconst 0, 1) := by decide +kernel
theorem dX4_append_60 : decode cX4_append 60 = .ok (.istore 5, 2) := by decide +kernel
theorem dX4_append_62 : decode cX4_append 62 = .ok (.aload_n 0, 1) := by decide +kernel
theorem dX4_append_63 : decode cX4_append 63 = .ok (.getfield 71, 3) := by decide +kernel
theorem dX4_append_66 : decode cX4_append 66 = .ok (.iload_n 2, 1) := by decide +kernel
theorem dX4_append_67 : decode cX4_append 67 = .ok (.iaload, 1) := by decide +kernel
theorem dX4_append_68 : decode cX4_append 68 = .ok (.iload_n 3, 1) := by decide +kernel
theorem dX4_append_69 : decode cX4_append 69 = .ok (.iadd, 1) := by decide +kernel
theorem dX4_append_70 : decode cX4_append 70 = .ok (.istore 6, 2) := by decide +kernel
theorem dX4_append_72 : decode cX4_append 72 = .ok (.iload 6, 2) := by decide +kernel
theorem dX4_append_74 : decode cX4_append 74 = .ok (.bipush 32, 2) := by decide +kernel
theorem dX4_append_76 : decode cX4_append 76 = .ok (.if_icmp .gt 31, 3) := by decide +kernel
theorem dX4_append_79 : decode cX4_append 79 = .ok (.aload_n 0, 1) := by decide +kernel
theorem dX4_append_80 : decode cX4_append 80 = .ok (.aload_n 0, 1) := by decide +kernel
theorem dX4_append_81 : decode cX4_append 81 = .ok (.getfield 62, 3) := by decide +kernel
theorem dX4_append_84 : decode cX4_append 84 = .ok (.iload_n 2, 1) := by decide +kernel
theorem dX4_append_85 : decode cX4_append 85 = .ok (.iaload, 1) := by decide +kernel
theorem dX4_append_86 : decode cX4_append 86 = .ok (.invokevirtual 191, 3) := by decide +kernel
theorem dX4_append_89 : decode cX4_append 89 = .ok (.iload 6, 2) := by decide +kernel
theorem dX4_append_91 : decode cX4_append 91 = .ok (.invokestatic 155, 3) := by decide +kernel
theorem dX4_append_94 : decode cX4_append 94 = .ok (.aload_n 0, 1) := by decide +kernel
theorem dX4_append_95 : decode cX4_append 95 = .ok (.getfield 71, 3) := by decide +kernel
theorem dX4_append_98 : decode cX4_append 98 = .ok (.iload_n 2, 1) := by decide +kernel
theorem dX4_append_99 : decode cX4_append 99 = .ok (.iaload, 1) := by decide +kernel
theorem dX4_append_100 : decode cX4_append 100 = .ok (.invokestatic 155, 3) := by decide +kernel
theorem dX4_append_103 : decode cX4_append 103 = .ok (.isub, 1) := by decide +kernel
theorem dX4_append_104 : decode cX4_append 104 = .ok (.if_icmp .ge 15, 3) := by decide +kernel
theorem dX4_append_107 : decode cX4_append 107 = .ok (.iload 5, 2) := by decide +kernel
theorem dX4_append_109 : decode cX4_append 109 = .ok (.ifCond .eq 7, 3) := by decide +kernel
theorem dX4_append_112 : decode cX4_append 112 = .ok (.iconst 1, 1) := by decide +kernel
theorem dX4_append_113 : decode cX4_append 113 = .ok (.goto 5, 3) := by decide +kernel
theorem dX4_append_116 : decode cX4_append 116 = .ok (.ldc 111, 2) := by decide +kernel
theorem dX4_append_118 : decode cX4_append 118 = .ok (.ireturn, 1) := by decide +kernel
theorem dX4_append_119 : decode cX4_append 119 = .ok (.aload_n 0, 1) := by decide +kernel
theorem dX4_append_120 : decode cX4_append 120 = .ok (.iload_n 3, 1) := by decide +kernel
theorem dX4_append_121 : decode cX4_append 121 = .ok (.iconst 1, 1) := by decide +kernel
theorem dX4_append_122 : decode cX4_append 122 = .ok (.iadd, 1) := by decide +kernel
theorem dX4_append_123 : decode cX4_append 123 = .ok (.invokevirtual 175, 3) := by decide +kernel
theorem dX4_append_126 : decode cX4_append 126 = .ok (.ifCond .eq 50, 3) := by decide +kernel
theorem dX4_append_129 : decode cX4_append 129 = .ok (.iconst 0, 1) := by decide +kernel
theorem dX4_append_130 : decode cX4_append 130 = .ok (.istore 7, 2) := by decide +kernel
theorem dX4_append_132 : decode cX4_append 132 = .ok (.iload 7, 2) := by decide +kernel
theorem dX4_append_134 : decode cX4_append 134 = .ok (.iload_n 3, 1) := by decide +kernel
theorem dX4_append_135 : decode cX4_append 135 = .ok (.if_icmp .ge 33, 3) := by decide +kernel
theorem dX4_append_138 : decode cX4_append 138 = .ok (.aload_n 0, 1) := by decide +kernel
theorem dX4_append_139 : decode cX4_append 139 = .ok (.getfield 74, 3) := by decide +kernel
theorem dX4_append_142 : decode cX4_append 142 = .ok (.bipush 32, 2) := by decide +kernel
theorem dX4_append_144 : decode cX4_append 144 = .ok (.iload_n 2, 1) := by decide +kernel
theorem dX4_append_145 : decode cX4_append 145 = .ok (.imul, 1) := by decide +kernel
theorem dX4_append_146 : decode cX4_append 146 = .ok (.aload_n 0, 1) := by decide +kernel
theorem dX4_append_147 : decode cX4_append 147 = .ok (.getfield 71, 3) := by decide +kernel
theorem dX4_append_150 : decode cX4_append 150 = .ok (.iload_n 2, 1) := by decide +kernel
theorem dX4_append_151 : decode cX4_append 151 = .ok (.iaload, 1) := by decide +kernel
theorem dX4_append_152 : decode cX4_append 152 = .ok (.iadd, 1) := by decide +kernel
theorem dX4_append_153 : decode cX4_append 153 = .ok (.iload 7, 2) := by decide +kernel
theorem dX4_append_155 : decode cX4_append 155 = .ok (.iadd, 1) := by decide +kernel
theorem dX4_append_156 : decode cX4_append 156 = .ok (.iload 4, 2) := by decide +kernel
theorem dX4_append_158 : decode cX4_append 158 = .ok (.iload 7, 2) := by decide +kernel
theorem dX4_append_160 : decode cX4_append 160 = .ok (.iadd, 1) := by decide +kernel
theorem dX4_append_161 : decode cX4_append 161 = .ok (.iastore, 1) := by decide +kernel
theorem dX4_append_162 : decode cX4_append 162 = .ok (.iinc 7 1, 3) := by decide +kernel
theorem dX4_append_165 : decode cX4_append 165 = .ok (.goto (-33), 3) := by decide +kernel
theorem dX4_append_168 : decode cX4_append 168 = .ok (.aload_n 0, 1) := by decide +kernel
theorem dX4_append_169 : decode cX4_append 169 = .ok (.getfield 71, 3) := by decide +kernel
theorem dX4_append_172 : decode cX4_append 172 = .ok (.iload_n 2, 1) := by decide +kernel
theorem dX4_append_173 : decode cX4_append 173 = .ok (.iload 6, 2) := by decide +kernel
theorem dX4_append_175 : decode cX4_append 175 = .ok (.iastore, 1) := by decide +kernel
theorem dX4_append_176 : decode cX4_append 176 = .ok (.aload_n 0, 1) := by decide +kernel
theorem dX4_append_177 : decode cX4_append 177 = .ok (.iconst 1, 1) := by decide +kernel
theorem dX4_append_178 : decode cX4_append 178 = .ok (.invokevirtual 178, 3) := by decide +kernel
theorem dX4_append_181 : decode cX4_append 181 = .ok (.ireturn, 1) := by decide +kernel
theorem dX4_read_0 : decode cX4_read 0 = .ok (.aload_n 0, 1) := by decide +kernel
theorem dX4_read_1 : decode cX4_read 1 = .ok (.iload_n 1, 1) := by decide +kernel
theorem dX4_read_2 : decode cX4_read 2 = .ok (.invokevirtual 103, 3) := by decide +kernel
theorem dX4_read_5 : decode cX4_read 5 = .ok (.ifCond .eq 11, 3) := by decide +kernel
theorem dX4_read_8 : decode cX4_read 8 = .ok (.aload_n 0, 1) := by decide +kernel
theorem dX4_read_9 : decode cX4_read 9 = .ok (.iload_n 2, 1) := by decide +kernel
theorem dX4_read_10 : decode cX4_read 10 = .ok (.invokevirtual 201, 3) := by decide +kernel
theorem dX4_read_13 : decode cX4_read 13 = .ok (.ifCond .ne 6, 3) := by decide +kernel
theorem dX4_read_16 : decode cX4_read 16 = .ok (.ldc 107, 2) := by decide +kernel
theorem dX4_read_18 : decode cX4_read 18 = .ok (.ireturn, 1) := by decide +kernel
theorem dX4_read_19 : decode cX4_read 19 = .ok (.aload_n 0, 1) := by decide +kernel
theorem dX4_read_20 : decode cX4_read 20 = .ok (.iload_n 1, 1) := by decide +kernel
theorem dX4_read_21 : decode cX4_read 21 = .ok (.iload_n 2, 1) := by decide +kernel
theorem dX4_read_22 : decode cX4_read 22 = .ok (.invokevirtual 165, 3) := by decide +kernel
theorem dX4_read_25 : decode cX4_read 25 = .ok (.ifCond .ne 6, 3) := by decide +kernel
theorem dX4_read_28 : decode cX4_read 28 = .ok (.ldc 135, 2) := by decide +kernel
theorem dX4_read_30 : decode cX4_read 30 = .ok (.ireturn, 1) := by decide +kernel
theorem dX4_read_31 : decode cX4_read 31 = .ok (.iload_n 3, 1) := by decide +kernel
theorem dX4_read_32 : decode cX4_read 32 = .ok (.i2l, 1) := by decide +kernel
theorem dX4_read_33 : decode cX4_read 33 = .ok (.lconst 0, 1) := by decide +kernel
theorem dX4_read_34 : decode cX4_read 34 = .ok (.aload_n 0, 1) := by decide +kernel
theorem dX4_read_35 : decode cX4_read 35 = .ok (.getfield 71, 3) := by decide +kernel
theorem dX4_read_38 : decode cX4_read 38 = .ok (.iload_n 2, 1) := by decide +kernel
theorem dX4_read_39 : decode cX4_read 39 = .ok (.iaload, 1) := by decide +kernel
theorem dX4_read_40 : decode cX4_read 40 = .ok (.iconst 1, 1) := by decide +kernel
theorem dX4_read_41 : decode cX4_read 41 = .ok (.isub, 1) := by decide +kernel
theorem dX4_read_42 : decode cX4_read 42 = .ok (.i2l, 1) := by decide +kernel
theorem dX4_read_43 : decode cX4_read 43 = .ok (.invokestatic 93, 3) := by decide +kernel
theorem dX4_read_46 : decode cX4_read 46 = .ok (.ifCond .eq 17, 3) := by decide +kernel
theorem dX4_read_49 : decode cX4_read 49 = .ok (.aload_n 0, 1) := by decide +kernel
theorem dX4_read_50 : decode cX4_read 50 = .ok (.getfield 74, 3) := by decide +kernel
theorem dX4_read_53 : decode cX4_read 53 = .ok (.bipush 32, 2) := by decide +kernel
theorem dX4_read_55 : decode cX4_read 55 = .ok (.iload_n 2, 1) := by decide +kernel
theorem dX4_read_56 : decode cX4_read 56 = .ok (.imul, 1) := by decide +kernel
theorem dX4_read_57 : decode cX4_read 57 = .ok (.iload_n 3, 1) := by decide +kernel
theorem dX4_read_58 : decode cX4_read 58 = .ok (.iadd, 1) := by decide +kernel
theorem dX4_read_59 : decode cX4_read 59 = .ok (.iaload, 1) := by decide +kernel
theorem dX4_read_60 : decode cX4_read 60 = .ok (.goto 5, 3) := by decide +kernel
theorem dX4_read_63 : decode cX4_read 63 = .ok (.ldc 110, 2) := by decide +kernel
theorem dX4_read_65 : decode cX4_read 65 = .ok (.ireturn, 1) := by decide +kernel
theorem dX4_object_0 : decode cX4_object 0 = .ok (.aload_n 0, 1) := by decide +kernel
theorem dX4_object_1 : decode cX4_object 1 = .ok (.iload_n 1, 1) := by decide +kernel
theorem dX4_object_2 : decode cX4_object 2 = .ok (.invokevirtual 103, 3) := by decide +kernel
theorem dX4_object_5 : decode cX4_object 5 = .ok (.ifCond .eq 11, 3) := by decide +kernel
theorem dX4_object_8 : decode cX4_object 8 = .ok (.aload_n 0, 1) := by decide +kernel
theorem dX4_object_9 : decode cX4_object 9 = .ok (.iload_n 2, 1) := by decide +kernel
theorem dX4_object_10 : decode cX4_object 10 = .ok (.invokevirtual 172, 3) := by decide +kernel
theorem dX4_object_13 : decode cX4_object 13 = .ok (.ifCond .ne 6, 3) := by decide +kernel
theorem dX4_object_16 : decode cX4_object 16 = .ok (.ldc 107, 2) := by decide +kernel
theorem dX4_object_18 : decode cX4_object 18 = .ok (.ireturn, 1) := by decide +kernel
theorem dX4_object_19 : decode cX4_object 19 = .ok (.iload_n 3, 1) := by decide +kernel
theorem dX4_object_20 : decode cX4_object 20 = .ok (.i2l, 1) := by decide +kernel
theorem dX4_object_21 : decode cX4_object 21 = .ok (.lconst 0, 1) := by decide +kernel
theorem dX4_object_22 : decode cX4_object 22 = .ok (.ldc2_w 208, 3) := by decide +kernel
theorem dX4_object_25 : decode cX4_object 25 = .ok (.invokestatic 93, 3) := by decide +kernel
theorem dX4_object_28 : decode cX4_object 28 = .ok (.ifCond .ne 6, 3) := by decide +kernel
theorem dX4_object_31 : decode cX4_object 31 = .ok (.ldc 110, 2) := by decide +kernel
theorem dX4_object_33 : decode cX4_object 33 = .ok (.ireturn, 1) := by decide +kernel
theorem dX4_object_34 : decode cX4_object 34 = .ok (.iload_n 3, 1) := by decide +kernel
theorem dX4_object_35 : decode cX4_object 35 = .ok (.iconst 3, 1) := by decide +kernel
theorem dX4_object_36 : decode cX4_object 36 = .ok (.if_icmp .le 12, 3) := by decide +kernel
theorem dX4_object_39 : decode cX4_object 39 = .ok (.aload_n 0, 1) := by decide +kernel
theorem dX4_object_40 : decode cX4_object 40 = .ok (.iload_n 1, 1) := by decide +kernel
theorem dX4_object_41 : decode cX4_object 41 = .ok (.iload_n 2, 1) := by decide +kernel
theorem dX4_object_42 : decode cX4_object 42 = .ok (.invokevirtual 165, 3) := by decide +kernel
theorem dX4_object_45 : decode cX4_object 45 = .ok (.ifCond .eq 26, 3) := by decide +kernel
theorem dX4_object_48 : decode cX4_object 48 = .ok (.iload_n 3, 1) := by decide +kernel
theorem dX4_object_49 : decode cX4_object 49 = .ok (.iconst 4, 1) := by decide +kernel
